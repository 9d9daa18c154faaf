/** Promises 18 and 21: guesses, and which cell would keep a contact. */
public final class ForecastTest {
    private static final Checks CHECKS = new Checks("ForecastTest");

    public static void main(String[] args) {
        guesses();
        guessesAreHeld();
        wrongGuesses();
        keeps();
        keepsNothingThatIsThrown();
        keepsByAPalm();
        wrongKeeps();
        CHECKS.end();
    }

    private static Palmward moving(int from, int to) {
        Palmward glass = new Palmward();
        glass.dial(2);
        glass.press(from % 8, from / 8, 38);
        glass.frame();
        glass.press(to % 8, to / 8, 38);
        glass.frame();
        return glass;
    }

    private static void guesses() {
        Palmward glass = moving(17, 19);
        for (int ahead = 0; ahead <= 5; ahead++) {
            CHECKS.same("X " + ahead + " ahead", glass.guess(0, ahead, false), 16 + 8 * ahead);
            CHECKS.same("Y " + ahead + " ahead", glass.guess(0, ahead, true), 16);
        }
        glass.frame();
        CHECKS.same("a missed one is guessed to stay", glass.guess(0, 5, false), 16);
    }

    private static void guessesAreHeld() {
        CHECKS.same("X to 56", moving(17, 19).guess(0, 6, false), 56);
        CHECKS.same("X to 0", moving(21, 19).guess(0, 9, false), 0);
        Palmward down = moving(10, 26);
        CHECKS.isTrue("it goes down", down.where(0, 3) > 0);
        CHECKS.same("Y to 40", down.guess(0, 9, true), 40);
        CHECKS.same("X stays", down.guess(0, 9, false), down.where(0, 0) + 9 * down.where(0, 2));
        Palmward up = moving(34, 18);
        CHECKS.isTrue("it goes up", up.where(0, 3) < 0);
        CHECKS.same("Y to 0", up.guess(0, 9, true), 0);
    }

    private static void wrongGuesses() {
        Palmward glass = moving(17, 19);
        CHECKS.refusesIndex("name 1", glass, () -> glass.guess(1, 0, true));
        CHECKS.refusesIndex("name -1 and ahead 10", glass, () -> glass.guess(-1, 10, false));
        CHECKS.refusesArgument("ahead 10", glass, () -> glass.guess(0, 10, true));
        CHECKS.refusesArgument("ahead -1", glass, () -> glass.guess(0, -1, false));
    }

    private static void keeps() {
        Palmward glass = new Palmward();
        glass.press(3, 3, 38);
        glass.frame();
        CHECKS.same("too weak", glass.keepBy(0, 19), -1);
        // around the contact the bases went up, at its own cell not, nor two cells off
        CHECKS.same("the first CELL in reach", glass.keepBy(0, 20), keepByTrying(20));
        CHECKS.same("stronger", glass.keepBy(0, 200), keepByTrying(200));
        long before = glass.digest();
        glass.keepBy(0, 40);
        CHECKS.same("nothing is changed", glass.digest(), before);
        glass.press(3, 3, 150);
        CHECKS.same("what waits counts: its PEAK goes on", glass.keepBy(0, 1), 27);
    }

    /** What keepBy says, by pressing each cell in a glass of its own. */
    private static int keepByTrying(int strength) {
        for (int cell = 0; cell < 48; cell++) {
            Palmward glass = new Palmward();
            glass.press(3, 3, 38);
            glass.frame();
            glass.press(cell % 8, cell / 8, strength);
            int peak = glass.wouldMatch(0);
            if (peak >= 0 && glass.ofPeak(peak, 0) == cell) {
                return cell;
            }
        }
        return -1;
    }

    private static void keepsNothingThatIsThrown() {
        Palmward glass = new Palmward();
        glass.press(3, 3, 38);
        glass.frame();
        CHECKS.isTrue("it could be kept", glass.keepBy(0, 50) >= 0);
        glass.limit(1);
        glass.noise(0, 15);
        CHECKS.same("not if the frame would be thrown away", glass.keepBy(0, 50), -1);
        glass.limit(12);
        CHECKS.isTrue("but by another limit", glass.keepBy(0, 50) >= 0);
    }

    private static void keepsByAPalm() {
        Palmward glass = new Palmward();
        glass.press(2, 2, 38);
        glass.frame();
        for (int x = 1; x <= 3; x++) {
            glass.press(x, 2, 160);
        }
        CHECKS.same("all is a PALM", glass.many(9), glass.many(8));
        CHECKS.same("it would be matched with it all the same", glass.keepBy(0, 1), 18);
    }

    private static void wrongKeeps() {
        Palmward glass = moving(17, 19);
        CHECKS.refusesIndex("name 1", glass, () -> glass.keepBy(1, 10));
        CHECKS.refusesIndex("name 5 and strength 0", glass, () -> glass.keepBy(5, 0));
        CHECKS.refusesArgument("strength 0", glass, () -> glass.keepBy(0, 0));
        CHECKS.refusesArgument("strength 201", glass, () -> glass.keepBy(0, 201));
        CHECKS.refusesArgument("strength -1", glass, () -> glass.keepBy(0, -1));
    }
}
