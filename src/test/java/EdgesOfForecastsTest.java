import java.math.BigDecimal;
import java.math.BigInteger;
import java.util.ArrayList;
import java.util.List;

/** Sentence by sentence, the boundary cases of guess, keepBy and digest (promises 18, 21, 22). */
public final class EdgesOfForecastsTest {
    private static final Checks CHECKS = new Checks("EdgesOfForecastsTest");

    public static void main(String[] args) {
        none();
        guessesAhead();
        guessesOfX();
        guessesOfY();
        guessesInFloats();
        guessesOfMissed();
        keepsByTheSmallest();
        keepsByStrength();
        keepsInAdditionToWhatWaits();
        keepsNoThrownOne();
        keepsAsByPressing();
        keepsByAPalm();
        keepsNone();
        digestStart();
        digestWraps();
        digestCuts();
        nothingIsChanged();
        CHECKS.end();
    }

    private static Palmward moved(int from, int to) {
        Palmward glass = Fingers.touched(from);
        Fingers.frame(glass, to);
        return glass;
    }

    private static void none() {
        CHECKS.sentence("Terms", "NONE is -1.");
        Palmward glass = Fingers.touched(19);
        CHECKS.same("AREA", glass.ofContact(0, 5), -1);
        CHECKS.same("wouldMatch", glass.wouldMatch(0), -1);
        CHECKS.same("keepBy", glass.keepBy(0, 1), -1);
        CHECKS.same("calmIn", Fingers.heldByHeat().calmIn(), -1);
    }

    private static void guessesAhead() {
        CHECKS.sentence("Terms", "A GUESS of a CONTACT by so many frames ahead: X, and DX times these more");
        Palmward glass = Fingers.charge(Fingers.dots(Fingers.touched(0), 0), 1, 2);
        glass.frame();
        CHECKS.same("DX", glass.where(0, 2), 1);
        for (int ahead = 0; ahead <= 9; ahead++) {
            CHECKS.same("X " + ahead + " ahead", glass.guess(0, ahead, false), 1 + ahead);
            CHECKS.same("Y " + ahead + " ahead", glass.guess(0, ahead, true), 0);
        }
        Palmward slow = Fingers.charge(Fingers.dots(Fingers.touched(0), 0), 1, 2);
        slow.dial(1);
        slow.frame();
        CHECKS.same("a quarter", slow.guess(0, 0, false), 0.25);
        CHECKS.same("four of them", slow.guess(0, 3, false), 1);
        Palmward fresh = Fingers.touched(47);
        CHECKS.same("one that just BEGAN, X", fresh.guess(0, 9, false), 56);
        CHECKS.same("one that just BEGAN, Y", fresh.guess(0, 9, true), 40);
    }

    private static void guessesOfX() {
        CHECKS.sentence("Terms", "held to 0 to 56 (in that type, too)");
        Palmward right = moved(21, 22);
        CHECKS.same("to 56", right.guess(0, 1, false), 56);
        CHECKS.same("above 56", right.guess(0, 2, false), 56);
        CHECKS.same("far above 56", right.guess(0, 9, false), 56);
        CHECKS.same("above 40 it is not held", right.guess(0, 0, false), 48);
        Palmward left = moved(18, 17);
        CHECKS.same("to 0", left.guess(0, 1, false), 0);
        CHECKS.same("below 0", left.guess(0, 2, false), 0);
        CHECKS.same("far below 0", left.guess(0, 9, false), 0);
        CHECKS.same("Y is not moved", left.guess(0, 9, true), 16);
        Palmward near = moved(21, 22);
        near.dial(1);
        Fingers.frame(near, 23);
        CHECKS.same("50 and 2 times 2", near.guess(0, 2, false), 54);
        CHECKS.same("50 and 3 times 2", near.guess(0, 3, false), 56);
        CHECKS.same("50 and 4 times 2", near.guess(0, 4, false), 56);
    }

    private static void guessesOfY() {
        CHECKS.sentence("Terms", "Y and DY likewise, to 0 to 40");
        Palmward down = moved(27, 35);
        CHECKS.same("to 40", down.guess(0, 1, true), 40);
        CHECKS.same("above 40", down.guess(0, 2, true), 40);
        CHECKS.same("far above 40", down.guess(0, 9, true), 40);
        CHECKS.same("X is not moved", down.guess(0, 9, false), 24);
        Palmward up = moved(19, 11);
        CHECKS.same("to 0", up.guess(0, 1, true), 0);
        CHECKS.same("below 0", up.guess(0, 2, true), 0);
        CHECKS.same("not yet", up.guess(0, 0, true), 8);
        Palmward end = Fingers.charge(Fingers.dots(Fingers.touched(47), 47), 39, 2);
        end.dial(1);
        end.frame();
        CHECKS.same("39.75", end.guess(0, 0, true), 39.75);
        CHECKS.same("39.5", end.guess(0, 1, true), 39.5);
    }

    private static void guessesInFloats() {
        CHECKS.sentence("Terms", "held to 0 to 56 (in that type, too)");
        Palmward glass = Fingers.touched(0);
        boolean isCut = false;
        for (int[] step : Fingers.WALK) {
            glass.dial(step[1]);
            Fingers.frame(glass, step[0]);
            float x = (float) glass.where(0, 0);
            float dx = (float) glass.where(0, 2);
            for (int ahead = 1; ahead <= 9; ahead += 2) {
                float more = dx * ahead;
                float due = Math.max(0, Math.min(x + more, 56));
                CHECKS.same("column " + step[0] + ", " + ahead + " ahead", glass.guess(0, ahead, false), due);
                isCut |= due > 0 && due < 56 && due != (float) (x + (double) dx * ahead);
            }
        }
        CHECKS.isTrue("a guess in doubles would have been another one", isCut);
    }

    private static void guessesOfMissed() {
        CHECKS.sentence("Terms", "DX and DY are 0");
        Palmward glass = moved(10, 19);
        glass.frame();
        CHECKS.same("a missed one's X", glass.guess(0, 9, false), 24);
        CHECKS.same("a missed one's Y", glass.guess(0, 9, true), 16);
    }

    private static void keepsByTheSmallest() {
        CHECKS.sentence("Promise 21", "(of several the smallest number)");
        CHECKS.same("of all in reach the one 16 above", Fingers.touched(27).keepBy(0, 20), 11);
        CHECKS.same("at the glass's first CELL", Fingers.touched(0).keepBy(0, 20), 0);
        // at the rim its sides draw the PLACE inwards: that of CELL 31 is (53, 24), by 265
        CHECKS.same("at its last CELL", Fingers.touched(47).keepBy(0, 20), 38);
        Palmward one = Fingers.touched(27);
        Fingers.noiseAll(one, -12);
        Fingers.charge(one, 35, 12);
        CHECKS.same("one alone is strong enough", one.keepBy(0, 20), 35);
    }

    private static void keepsByStrength() {
        CHECKS.sentence("Promise 21", "the CELL that could be pressed with that");
        Palmward glass = Fingers.touched(27);
        CHECKS.same("1", glass.keepBy(0, 1), -1);
        CHECKS.same("19", glass.keepBy(0, 19), -1);
        CHECKS.same("20", glass.keepBy(0, 20), 11);
        CHECKS.same("200", glass.keepBy(0, 200), 11);
    }

    private static void keepsInAdditionToWhatWaits() {
        CHECKS.sentence("Promise 21", "in addition to what waits");
        Palmward nearly = Fingers.charge(Fingers.touched(27), 28, 19);
        CHECKS.same("1 more", nearly.keepBy(0, 1), 28);
        Palmward there = Fingers.dots(Fingers.touched(27), 27);
        CHECKS.same("a PEAK that waits goes on", there.keepBy(0, 1), 27);
        Palmward strong = Fingers.charge(Fingers.touched(27), 27, 60);
        CHECKS.same("the nearest PEAK is not that CELL", strong.keepBy(0, 20), 27);
        Palmward far = Fingers.dots(Fingers.touched(27), 23);
        CHECKS.same("a PEAK out of reach hinders not", far.keepBy(0, 20), 11);
    }

    private static void keepsNoThrownOne() {
        CHECKS.sentence("Promise 21", "so that the CONTACT would be matched");
        Palmward glass = Fingers.noiseAll(Fingers.touched(27), -12);
        CHECKS.same("HUM", glass.many(7), 12);
        glass.limit(11);
        CHECKS.same("it would be thrown away as it waits", glass.wouldMatch(0), -1);
        // one is TOUCHED, 4 are 18, 4 are 3, 39 are -12: 552 by 47 is 11
        CHECKS.same("by a press its HUM is that of the LIMIT", glass.keepBy(0, 60), 11);
        glass.limit(10);
        CHECKS.same("above the LIMIT", glass.keepBy(0, 60), -1);
        Palmward calm = Fingers.touched(27);
        calm.limit(2);
        CHECKS.same("4 of 19 and 4 of 9: 112 by 47", calm.keepBy(0, 39), 11);
        calm.limit(1);
        CHECKS.same("at the rim alone, 3 of 19 and 2 of 9: 75 by 47", calm.keepBy(0, 39), 42);
        CHECKS.same("but with a weaker one: 40 and 20 by 47", calm.keepBy(0, 20), 11);
    }

    /** What keepBy says, by pressing each CELL in a glass of its own. */
    private static void keepsAsByPressing() {
        CHECKS.sentence("Promise 21", "Returns the number of the CELL that could be pressed with that");
        int[][] waits = {{}, {20}, {22, 33}, {19, 28, 36}, {2, 18, 34}};
        for (int[] cells : waits) {
            for (int name = 0; name <= 1; name++) {
                for (int strength : new int[] {1, 20, 21, 39, 80, 200}) {
                    int due = -1;
                    for (int cell = 47; cell >= 0; cell--) {
                        Palmward tried = Fingers.dots(Fingers.touched(10, 28), cells);
                        tried.press(cell % 8, cell / 8, strength);
                        int peak = tried.wouldMatch(name);
                        due = peak >= 0 && tried.ofPeak(peak, 0) == cell ? cell : due;
                    }
                    Palmward glass = Fingers.dots(Fingers.touched(10, 28), cells);
                    CHECKS.same("name " + name + " by " + strength, glass.keepBy(name, strength), due);
                }
            }
        }
    }

    private static void keepsByAPalm() {
        CHECKS.sentence("Promise 21", "matched with a PEAK that is that CELL");
        Palmward glass = Fingers.region(Fingers.touched(0), 15);
        CHECKS.same("a PALM is matched, too", glass.keepBy(0, 1), 0);
    }

    private static void keepsNone() {
        CHECKS.sentence("Promise 21", "NONE without one");
        Palmward glass = Fingers.touched(27);
        Fingers.charge(glass, 26, 200);
        Fingers.charge(glass, 28, 200);
        CHECKS.same("weaker than all PEAKS in reach, but for these", glass.keepBy(0, 1), 26);
        Palmward cold = Fingers.touched(27);
        cold.heat(-12);
        CHECKS.same("31 less 12", cold.keepBy(0, 31), -1);
        CHECKS.isTrue("32 less 12", cold.keepBy(0, 32) >= 0);
    }

    private static void digestStart() {
        CHECKS.sentence("Promise 22", "A number d starts with 58249");
        BigInteger d = BigInteger.valueOf(58249);
        // many(), ofCell() of 1 and 2, ofRow(), calmIn(): all are 0 at first, without PEAKS, CONTACTS and AREAS
        for (int number = 0; number < 10 + 96 + 18 + 1; number++) {
            d = d.multiply(BigInteger.valueOf(31));
        }
        CHECKS.same("digest() of a new one", new Palmward().digest(), d.longValue());
    }

    private static void digestWraps() {
        CHECKS.sentence("Promise 22", "d becomes d * 31 + v, which wraps around as a 64-bit integer");
        Palmward glass = new Palmward();
        glass.area(0, 3, 0, 5);
        glass.area(4, 7, 0, 5);
        Fingers.frame(glass, 0, 20);
        Fingers.dots(glass, 1, 29, 42);
        glass.noise(3, -7);
        List<Long> numbers = numbers(glass);
        BigInteger d = BigInteger.valueOf(58249);
        for (long number : numbers) {
            d = d.multiply(BigInteger.valueOf(31)).add(BigInteger.valueOf(number));
        }
        CHECKS.isTrue("it is far above 64 bits", d.bitLength() > 64);
        CHECKS.same("digest()", glass.digest(), d.longValue());
        glass.heat(-30);
        CHECKS.isTrue("another one", glass.digest() != d.longValue());
    }

    private static void digestCuts() {
        CHECKS.sentence("Promise 22", "each without what is behind its point");
        Palmward glass = Fingers.touched(21);
        glass.dial(1);
        boolean isBelow = false;
        for (int frame = 0; frame < 5; frame++) {
            Fingers.frame(glass, frame < 2 ? 20 : 19);
            double dx = 16 * glass.where(0, 2);
            isBelow |= dx < 0 && dx != Math.rint(dx);
            long d = 58249;
            for (long number : numbers(glass)) {
                d = d * 31 + number;
            }
            CHECKS.same("frame " + frame, glass.digest(), d);
        }
        CHECKS.isTrue("something below 0 was cut", isBelow);
    }

    private static List<Long> numbers(Palmward glass) {
        List<Long> numbers = new ArrayList<>();
        for (int what = 0; what <= 9; what++) {
            numbers.add((long) glass.many(what));
        }
        for (int cell = 0; cell < 48; cell++) {
            numbers.add((long) glass.ofCell(cell % 8, cell / 8, 1));
            numbers.add((long) glass.ofCell(cell % 8, cell / 8, 2));
        }
        for (int peak = 0; peak < glass.many(8); peak++) {
            for (int what = 0; what <= 4; what++) {
                numbers.add((long) glass.ofPeak(peak, what));
            }
        }
        for (int name = 0; name < glass.many(2); name++) {
            numbers.add((long) name);
            for (int what = 0; what <= 5; what++) {
                numbers.add((long) glass.ofContact(name, what));
            }
            numbers.add((long) glass.wouldMatch(name));
            for (int what = 0; what <= 4; what++) {
                numbers.add(cut(glass.where(name, what)));
            }
            numbers.add(cut(glass.guess(name, 2, false)));
            numbers.add(cut(glass.guess(name, 2, true)));
        }
        for (int area = 0; area < glass.many(6); area++) {
            for (int what = 0; what <= 4; what++) {
                numbers.add((long) glass.ofArea(area, what));
            }
        }
        for (int y = 0; y < 6; y++) {
            for (int what = 0; what <= 2; what++) {
                numbers.add((long) glass.ofRow(y, what));
            }
        }
        numbers.add((long) glass.calmIn());
        return numbers;
    }

    private static long cut(double number) {
        return new BigDecimal(number).multiply(BigDecimal.valueOf(16)).toBigInteger().longValueExact();
    }

    private static void nothingIsChanged() {
        CHECKS.sentence("Terms", "what would be (nothing is changed)");
        Palmward glass = moved(27, 28);
        Palmward twin = moved(27, 28);
        for (Palmward one : List.of(glass, twin)) {
            one.heat(5);
            Fingers.dots(one, 29);
        }
        for (int time = 0; time < 3; time++) {
            glass.guess(0, 9, true);
            glass.wouldMatch(0);
            glass.calmIn();
            glass.keepBy(0, 200);
            glass.keepBy(0, 1);
            glass.digest();
        }
        for (int frame = 0; frame < 3; frame++) {
            CHECKS.same("PEAKS", Fingers.peaks(glass), Fingers.peaks(twin));
            CHECKS.same("CHARGE", glass.ofCell(5, 3, 0), twin.ofCell(5, 3, 0));
            CHECKS.same("digest()", glass.digest(), twin.digest());
            CHECKS.same("frame()", glass.frame(), twin.frame());
        }
    }
}
