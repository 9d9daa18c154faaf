/** Promise 8, (2), (3) and (5), promises 9 and 16: taps, pinches, pans and holds, and what areas count of them. */
public final class ClaimsTest {
    private static final Checks CHECKS = new Checks("ClaimsTest");

    public static void main(String[] args) {
        taps();
        noTapByAClaim();
        pinches();
        pinchByAnEighth();
        pinchOfOneArea();
        pinchByNames();
        pinchOfALaterOne();
        pinchNeedsBoth();
        pans();
        holds();
        panBeforeHold();
        takenBack();
        contactsOfAnArea();
        wrongCalls();
        CHECKS.end();
    }

    private static Palmward withHalves() {
        Palmward glass = new Palmward();
        glass.area(0, 3, 0, 5);
        glass.area(4, 7, 0, 5);
        return glass;
    }

    private static void frame(Palmward glass, int... cells) {
        for (int cell : cells) {
            glass.press(cell % 8, cell / 8, 38);
        }
        glass.frame();
    }

    private static void checkArea(Palmward glass, String when, int area, int... due) {
        String[] names = {"TAPS", "PINCHES", "PANS", "HOLDS", "CONTACTS"};
        for (int what = 0; what < due.length; what++) {
            CHECKS.same(when + ": " + names[what] + " of " + area, glass.ofArea(area, what), due[what]);
        }
    }

    private static void taps() {
        for (int frames = 1; frames <= 6; frames++) {
            Palmward glass = withHalves();
            for (int frame = 0; frame < frames; frame++) {
                frame(glass, 17);
            }
            glass.frame();
            checkArea(glass, "missed once after " + frames, 0, 0, 0, 0, 0, 1);
            glass.frame();
            checkArea(glass, "lifted after " + frames, 0, frames <= 4 ? 1 : 0, 0, 0, 0, 0);
            checkArea(glass, "the other area", 1, 0, 0, 0, 0, 0);
        }
        Palmward bare = new Palmward();
        bare.area(0, 0, 0, 0);
        frame(bare, 17);
        bare.frame();
        CHECKS.same("outside all areas it is counted nowhere", bare.frame(), 0);
        checkArea(bare, "outside", 0, 0, 0, 0, 0, 0);
    }

    private static void noTapByAClaim() {
        Palmward glass = withHalves();
        frame(glass, 17);
        frame(glass, 19);
        CHECKS.same("a PAN", glass.ofContact(0, 4), 2);
        glass.frame();
        glass.frame();
        checkArea(glass, "what claims is no TAP, and stays claimed", 0, 0, 0, 1, 0, 0);
    }

    private static void pinches() {
        Palmward glass = withHalves();
        frame(glass, 18, 21);
        frame(glass, 17, 22);
        CHECKS.same("apart by 16 more", glass.apart(0, 1), 40);
        CHECKS.same("is no PINCH", glass.ofContact(0, 4), 0);
        frame(glass, 16, 23);
        CHECKS.isTrue("by more than 16, and both have gone far", glass.apart(0, 1) > 40 && glass.where(0, 4) > 12);
        CHECKS.same("is a PINCH ahead of a PAN", glass.ofContact(0, 4), 1);
        CHECKS.same("of both", glass.ofContact(1, 4), 1);
        checkArea(glass, "left", 0, 0, 1, 0, 0, 1);
        checkArea(glass, "right", 1, 0, 1, 0, 0, 1);
        frame(glass, 16, 23);
        checkArea(glass, "counted once", 0, 0, 1, 0, 0, 1);
        Palmward nearer = withHalves();
        frame(nearer, 16, 23);
        frame(nearer, 17, 22);
        frame(nearer, 18, 21);
        CHECKS.isTrue("nearer by more than 16", nearer.apart(0, 1) < 56 - 16 - 5);
        CHECKS.same("is a PINCH, too", nearer.ofContact(1, 4), 1);
    }

    private static void pinchByAnEighth() {
        Palmward glass = withHalves();
        frame(glass, 18, 21);
        glass.press(7, 2, 2);
        frame(glass, 17, 22);
        CHECKS.same("apart by 17 more", glass.apart(0, 1), 41);
        CHECKS.same("is a PINCH", glass.ofContact(0, 4), 1);
    }

    private static void pinchOfOneArea() {
        Palmward glass = new Palmward();
        glass.area(0, 7, 0, 5);
        frame(glass, 18, 21);
        frame(glass, 17, 22);
        frame(glass, 16, 23);
        checkArea(glass, "one for each", 0, 0, 2, 0, 0, 2);
    }

    /** Names 0 and 1 pinch first; then name 2 finds nobody who claims nothing, and pans. */
    private static void pinchByNames() {
        Palmward glass = new Palmward();
        glass.area(0, 7, 0, 5);
        frame(glass, 10, 13, 37);
        frame(glass, 9, 14, 38);
        frame(glass, 8, 15, 39);
        CHECKS.same("name 0", glass.ofContact(0, 4), 1);
        CHECKS.same("name 1", glass.ofContact(1, 4), 1);
        CHECKS.isTrue("name 2 is far enough from name 0, too", glass.apart(0, 2) > 24 + 24 + 16);
        CHECKS.same("name 2 pans", glass.ofContact(2, 4), 2);
        checkArea(glass, "all three", 0, 0, 2, 1, 0, 3);
    }

    /** What counts is how far both were apart as the later one began, not another one of its name. */
    private static void pinchOfALaterOne() {
        Palmward glass = withHalves();
        frame(glass, 16, 23);
        CHECKS.isTrue("far apart", glass.apart(0, 1) > 48);
        frame(glass, 23);
        frame(glass, 23);
        CHECKS.same("name 0 is lifted", glass.many(4), 1);
        frame(glass, 20, 23);
        CHECKS.isTrue("name 0 is there again, and nearer", glass.apart(0, 1) < 32);
        frame(glass, 20, 23);
        CHECKS.same("none of both pinches", glass.ofContact(0, 4) + glass.ofContact(1, 4), 0);
    }

    private static void pinchNeedsBoth() {
        Palmward glass = withHalves();
        frame(glass, 18, 21);
        frame(glass, 17, 22);
        frame(glass, 16);
        CHECKS.isTrue("the left one is matched, the right one not", glass.ofContact(1, 3) == 1);
        CHECKS.isTrue("they are far enough apart", glass.apart(0, 1) > 40);
        CHECKS.same("no PINCH without both", glass.ofContact(0, 4), 2);
        CHECKS.same("nor a claim of who is not matched", glass.ofContact(1, 4), 0);
    }

    private static void pans() {
        Palmward glass = withHalves();
        glass.dial(3);
        frame(glass, 17);
        frame(glass, 19);
        CHECKS.same("MOVED 12", glass.where(0, 4), 12);
        CHECKS.same("is no PAN", glass.ofContact(0, 4), 0);
        glass.dial(1);
        frame(glass, 19);
        CHECKS.same("MOVED 13", glass.where(0, 4), 13);
        CHECKS.same("is a PAN", glass.ofContact(0, 4), 2);
        checkArea(glass, "where it began", 0, 0, 0, 1, 0, 1);
        frame(glass, 20);
        CHECKS.same("still of that AREA", glass.ofContact(0, 5), 0);
        checkArea(glass, "counted once", 0, 0, 0, 1, 0, 1);
        checkArea(glass, "not where it is", 1, 0, 0, 0, 0, 0);
    }

    private static void holds() {
        Palmward glass = withHalves();
        for (int frames = 1; frames <= 10; frames++) {
            frame(glass, 17);
            CHECKS.same("FRAMES " + frames, glass.ofContact(0, 4), frames >= 8 ? 3 : 0);
            checkArea(glass, "FRAMES " + frames, 0, 0, 0, 0, frames >= 8 ? 1 : 0, 1);
        }
    }

    private static void panBeforeHold() {
        Palmward glass = withHalves();
        for (int frames = 1; frames <= 7; frames++) {
            frame(glass, 17);
        }
        frame(glass, 18);
        frame(glass, 19);
        CHECKS.same("it held ahead of it went", glass.ofContact(0, 4), 3);
        Palmward other = withHalves();
        for (int frames = 1; frames <= 6; frames++) {
            frame(other, 17);
        }
        frame(other, 18);
        CHECKS.same("7 FRAMES", other.ofContact(0, 4), 0);
        frame(other, 19);
        CHECKS.same("8 FRAMES", other.ofContact(0, 2), 8);
        CHECKS.same("a PAN goes first", other.ofContact(0, 4), 2);
    }

    private static void takenBack() {
        Palmward glass = withHalves();
        frame(glass, 17, 22);
        for (int frames = 2; frames <= 8; frames++) {
            frame(glass, 17, 22);
        }
        checkArea(glass, "left", 0, 0, 0, 0, 1, 1);
        checkArea(glass, "right", 1, 0, 0, 0, 1, 1);
        for (int x = 0; x <= 3; x++) {
            glass.press(x, 2, 160);
        }
        CHECKS.isTrue("a PALM", glass.many(9) > 0 && glass.wouldMatch(0) >= 0);
        glass.frame();
        CHECKS.same("CANCELLED", glass.many(5), 1);
        checkArea(glass, "left: taken back", 0, 0, 0, 0, 0, 0);
        checkArea(glass, "right: not so", 1, 0, 0, 0, 1, 1);
        CHECKS.same("wipe", glass.wipe(), 1);
        checkArea(glass, "right: taken back", 1, 0, 0, 0, 0, 0);
        CHECKS.same("both CANCELLED", glass.many(5), 2);
        frame(glass, 17);
        CHECKS.same("wipe of one that claims nothing", glass.wipe(), 1);
        checkArea(glass, "nothing to take back", 0, 0, 0, 0, 0, 0);
    }

    private static void contactsOfAnArea() {
        Palmward glass = withHalves();
        frame(glass, 1, 33, 22, 46);
        checkArea(glass, "left", 0, 0, 0, 0, 0, 2);
        checkArea(glass, "right", 1, 0, 0, 0, 0, 2);
        glass.area(0, 7, 0, 5);
        checkArea(glass, "a later one", 2, 0, 0, 0, 0, 0);
    }

    private static void wrongCalls() {
        Palmward glass = withHalves();
        CHECKS.refusesIndex("area -1", glass, () -> glass.ofArea(-1, 0));
        CHECKS.refusesIndex("area 2", glass, () -> glass.ofArea(2, 0));
        CHECKS.refusesIndex("area 4 and what 5", glass, () -> glass.ofArea(4, 5));
        CHECKS.refusesArgument("what 5", glass, () -> glass.ofArea(1, 5));
        CHECKS.refusesArgument("what -1", glass, () -> glass.ofArea(0, -1));
    }
}
