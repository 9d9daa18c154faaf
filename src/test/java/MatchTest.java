/** Promise 8, (1), and promise 19: which contact is matched with which peak. */
public final class MatchTest {
    private static final Checks CHECKS = new Checks("MatchTest");

    public static void main(String[] args) {
        reach();
        smallerNameFirst();
        mostPairs();
        smallestSum();
        smallerPeakFirst();
        thrownAway();
        missedContacts();
        wrongNames();
        CHECKS.end();
    }

    private static Palmward pressed(int... cells) {
        Palmward glass = new Palmward();
        press(glass, cells);
        glass.frame();
        return glass;
    }

    private static void press(Palmward glass, int... cells) {
        for (int cell : cells) {
            glass.press(cell % 8, cell / 8, 38);
        }
    }

    private static void reach() {
        Palmward glass = pressed(17);
        CHECKS.same("LX", glass.ofContact(0, 0), 8);
        CHECKS.same("LY", glass.ofContact(0, 1), 16);
        CHECKS.same("no PEAK", glass.wouldMatch(0), -1);
        press(glass, 19);
        CHECKS.same("PX", glass.ofPeak(0, 1), 24);
        CHECKS.same("squares of 256 are in reach", glass.wouldMatch(0), 0);
        glass.press(4, 2, 6);
        CHECKS.same("PX", glass.ofPeak(0, 1), 25);
        CHECKS.same("squares of 289 are not", glass.wouldMatch(0), -1);
        glass.frame();
        CHECKS.same("so another one began", glass.many(2), 2);
        CHECKS.same("and the first is missed", glass.ofContact(0, 3), 1);
        Palmward slant = pressed(17);
        press(slant, 19);
        slant.press(3, 3, 6);
        CHECKS.same("PX", slant.ofPeak(0, 1), 24);
        CHECKS.same("PY", slant.ofPeak(0, 2), 17);
        CHECKS.same("nor are both together, 256 and 1", slant.wouldMatch(0), -1);
    }

    private static void smallerNameFirst() {
        Palmward glass = pressed(17, 21);
        CHECKS.same("name 0 is left", glass.ofContact(0, 0), 8);
        CHECKS.same("name 1 is right", glass.ofContact(1, 0), 40);
        press(glass, 19);
        CHECKS.same("as far from one as from the other", glass.ofPeak(0, 1), 24);
        CHECKS.same("the smaller NAME has it", glass.wouldMatch(0), 0);
        CHECKS.same("none is greater than all", glass.wouldMatch(1), -1);
        glass.frame();
        CHECKS.same("so it is", glass.ofContact(0, 2), 2);
        CHECKS.same("the other one is missed", glass.ofContact(1, 3), 1);
    }

    private static void mostPairs() {
        Palmward glass = pressed(10, 13);
        CHECKS.same("name 0", glass.ofContact(0, 0), 16);
        CHECKS.same("name 1", glass.ofContact(1, 0), 40);
        press(glass, 12, 15);
        CHECKS.same("peak 0 is nearer to name 1", glass.ofPeak(0, 1), 32);
        CHECKS.same("peak 1 is farther from it", glass.ofPeak(1, 1), 54);
        CHECKS.same("but so both have one", glass.wouldMatch(0), 0);
        CHECKS.same("both", glass.wouldMatch(1), 1);
    }

    private static void smallestSum() {
        Palmward glass = pressed(12);
        press(glass, 10, 12);
        glass.frame();
        CHECKS.isTrue("name 0 is right", glass.ofContact(0, 0) > glass.ofContact(1, 0));
        press(glass, 10, 12);
        CHECKS.isTrue("each could be matched with the other's",
            Math.abs(glass.ofContact(0, 0) - glass.ofPeak(0, 1)) <= 16
            && Math.abs(glass.ofContact(1, 0) - glass.ofPeak(1, 1)) <= 16);
        CHECKS.same("but the sum of squares is greater then", glass.wouldMatch(0), 1);
        CHECKS.same("so each keeps its own", glass.wouldMatch(1), 0);
    }

    private static void smallerPeakFirst() {
        Palmward glass = pressed(19);
        press(glass, 17, 21);
        CHECKS.same("one PEAK is 16 to the left", glass.ofPeak(0, 1), 8);
        CHECKS.same("the other one 16 to the right", glass.ofPeak(1, 1), 40);
        CHECKS.same("the smaller one is taken", glass.wouldMatch(0), 0);
        glass.frame();
        CHECKS.same("by the frame, too", glass.ofContact(0, 0), 8);
        CHECKS.same("and the other one begins", glass.ofContact(1, 0), 40);
    }

    private static void thrownAway() {
        Palmward glass = pressed(19);
        press(glass, 19);
        CHECKS.same("it would be matched", glass.wouldMatch(0), 0);
        glass.limit(1);
        glass.noise(5, 12);
        CHECKS.isTrue("it hums", glass.many(7) > 1);
        CHECKS.same("it would be thrown away", glass.wouldMatch(0), -1);
        glass.limit(glass.many(7));
        CHECKS.same("not so if it hums no more than the LIMIT", glass.wouldMatch(0), 0);
        glass.noise(5, 6);
        CHECKS.same("but if more", glass.wouldMatch(0), -1);
    }

    private static void missedContacts() {
        Palmward glass = pressed(17);
        glass.frame();
        CHECKS.same("it is missed", glass.ofContact(0, 3), 1);
        press(glass, 17);
        CHECKS.same("and found again", glass.wouldMatch(0), 0);
        glass.frame();
        CHECKS.same("its MISSES are gone", glass.ofContact(0, 3), 0);
        CHECKS.same("FRAMES", glass.ofContact(0, 2), 2);
    }

    private static void wrongNames() {
        Palmward glass = pressed(17);
        CHECKS.refusesIndex("name -1", glass, () -> glass.wouldMatch(-1));
        CHECKS.refusesIndex("name 1", glass, () -> glass.wouldMatch(1));
        CHECKS.refusesIndex("name 5", glass, () -> glass.wouldMatch(5));
        glass.wipe();
        CHECKS.refusesIndex("a gone name", glass, () -> glass.wouldMatch(0));
    }
}
