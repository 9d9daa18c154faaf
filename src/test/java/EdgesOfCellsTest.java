/** Sentence by sentence, the boundary cases of cells, bases, heat, presses and noise (promises 1, 5, 6, 7 and 10). */
public final class EdgesOfCellsTest {
    private static final Checks CHECKS = new Checks("EdgesOfCellsTest");

    public static void main(String[] args) {
        newObject();
        numbersOfCells();
        basesAtFirst();
        heats();
        heatBefore();
        waitsSinceTheLatestFrame();
        pressesEverywhere();
        halvesAreRoundedDown();
        pressesAddUp();
        pressReturnsTheSignal();
        noiseOfARow();
        noiseReturnsTheHum();
        signals();
        touched();
        untouchedHaveNoRegion();
        lastCall();
        CHECKS.end();
    }

    private static void newObject() {
        CHECKS.sentence("Promise 1", "Creates a glass that nobody touches.");
        Palmward glass = new Palmward();
        for (int what = 0; what <= 9; what++) {
            CHECKS.same("many(" + what + ")", glass.many(what), 0);
        }
        for (int cell = 0; cell < 48; cell++) {
            CHECKS.same("TOUCHED " + cell, glass.ofCell(cell % 8, cell / 8, 3), 0);
        }
        CHECKS.same("frame()", glass.frame(), 0);
        CHECKS.same("wipe()", glass.wipe(), 0);
    }

    private static void numbersOfCells() {
        CHECKS.sentence("Terms", "8 columns (x 0 to 7) and 6 rows (y 0 to 5); the number of a CELL is 8 times y, and x");
        for (int cell = 0; cell < 48; cell++) {
            Palmward glass = Fingers.dots(new Palmward(), cell);
            CHECKS.same("PEAKS of " + cell, Fingers.peaks(glass), Integer.toString(cell));
            CHECKS.same("CHARGE of " + cell, glass.ofCell(cell % 8, cell / 8, 0), 20);
            CHECKS.same("PX of " + cell, glass.ofPeak(0, 1), 8 * (cell % 8));
            CHECKS.same("PY of " + cell, glass.ofPeak(0, 2), 8 * (cell / 8));
        }
    }

    private static void basesAtFirst() {
        CHECKS.sentence("Terms", "Each has a BASE (0 at first)");
        Palmward glass = new Palmward();
        glass.heat(30);
        for (int cell = 0; cell < 48; cell++) {
            CHECKS.same("BASE of " + cell, Fingers.base(glass, cell), 0);
        }
    }

    private static void heats() {
        CHECKS.sentence("Terms", "HEAT (-30 to 30; 0 at first)");
        CHECKS.same("at first", new Palmward().ofCell(7, 5, 0), 0);
        for (int heat = -30; heat <= 30; heat++) {
            Palmward glass = new Palmward();
            glass.heat(heat);
            CHECKS.same("CHARGE by HEAT " + heat, glass.ofCell(0, 0, 0), heat);
            CHECKS.same("SIGNAL by HEAT " + heat, glass.ofCell(7, 5, 2), heat);
            CHECKS.same("TOUCHED by HEAT " + heat, glass.ofCell(7, 5, 3), heat >= 20 ? 1 : 0);
            glass.frame();
            CHECKS.same("HEAT stays " + heat, glass.ofCell(7, 5, 0), heat);
        }
    }

    private static void heatBefore() {
        CHECKS.sentence("Promise 5", "Returns that before.");
        Palmward glass = new Palmward();
        CHECKS.same("at first", glass.heat(-30), 0);
        CHECKS.same("the lowest", glass.heat(30), -30);
        CHECKS.same("the highest", glass.heat(30), 30);
        CHECKS.refusesArgument("31", glass, () -> glass.heat(31));
        CHECKS.same("a refused one was not told", glass.heat(0), 30);
    }

    private static void waitsSinceTheLatestFrame() {
        CHECKS.sentence("Terms", "what was pressed and noised since the latest frame");
        Palmward glass = new Palmward();
        glass.press(3, 3, 200);
        glass.noise(1, -40);
        glass.press(3, 3, 200);
        glass.noise(1, -40);
        CHECKS.same("pressed twice", glass.ofCell(3, 3, 0), 400);
        CHECKS.same("noised twice", glass.ofCell(0, 1, 0), -80);
        CHECKS.same("thrown away", glass.frame(), -2);
        CHECKS.same("pressed: gone", glass.ofCell(3, 3, 0), 0);
        CHECKS.same("noised: gone", glass.ofCell(0, 1, 0), 0);
        glass.press(3, 3, 200);
        CHECKS.same("taken", glass.frame(), 1);
        CHECKS.same("gone again", glass.ofCell(3, 3, 0), 0);
        glass.press(3, 3, 1);
        CHECKS.same("and anew", glass.ofCell(3, 3, 0), 1);
    }

    private static void pressesEverywhere() {
        CHECKS.sentence("Terms", "that of the 4 at its corners STRENGTH / 4 (as far as they are there)");
        for (int cell = 0; cell < 48; cell++) {
            Palmward glass = new Palmward();
            glass.press(cell % 8, cell / 8, 200);
            for (int other = 0; other < 48; other++) {
                int across = Math.abs(other % 8 - cell % 8);
                int along = Math.abs(other / 8 - cell / 8);
                int due = across > 1 || along > 1 ? 0 : 200 >> (across + along);
                CHECKS.same("200 on " + cell + ", CHARGE of " + other, glass.ofCell(other % 8, other / 8, 0), due);
            }
        }
    }

    private static void halvesAreRoundedDown() {
        CHECKS.sentence("Terms", "what is divided is rounded down (below 0, too)");
        int[][] due = {{1, 0, 0}, {2, 1, 0}, {3, 1, 0}, {4, 2, 1}, {7, 3, 1}, {8, 4, 2}, {199, 99, 49}, {200, 100, 50}};
        for (int[] one : due) {
            Palmward glass = new Palmward();
            glass.press(3, 3, one[0]);
            CHECKS.same(one[0] + " beside", glass.ofCell(4, 3, 0), one[1]);
            CHECKS.same(one[0] + " below", glass.ofCell(3, 4, 0), one[1]);
            CHECKS.same(one[0] + " at a corner", glass.ofCell(2, 2, 0), one[2]);
        }
        Palmward odd = new Palmward();
        odd.press(3, 3, 3);
        odd.press(3, 3, 3);
        CHECKS.same("each press for itself", odd.ofCell(3, 2, 0), 2);
        CHECKS.same("each corner for itself", odd.ofCell(2, 2, 0), 0);
        Palmward humming = Fingers.noiseAll(new Palmward(), -13);
        humming.press(3, 3, 1);
        CHECKS.same("HUM of 623 by 48", humming.many(7), 12);
    }

    private static void pressesAddUp() {
        CHECKS.sentence("Terms", "To PRESS a CELL with a STRENGTH: its CHARGE is that more");
        Palmward glass = new Palmward();
        for (int time = 1; time <= 500; time++) {
            glass.press(3, 3, 200);
        }
        CHECKS.same("500 times 200", glass.ofCell(3, 3, 0), 100000);
        CHECKS.same("beside", glass.ofCell(3, 4, 0), 50000);
        CHECKS.same("at a corner", glass.ofCell(4, 4, 0), 25000);
        CHECKS.same("PX of so much", glass.ofPeak(0, 1), 24);
        CHECKS.same("PY of so much", glass.ofPeak(0, 2), 24);
    }

    private static void pressReturnsTheSignal() {
        CHECKS.sentence("Promise 6", "Returns the SIGNAL of that CELL then.");
        Palmward glass = new Palmward();
        CHECKS.same("the weakest", glass.press(0, 0, 1), 1);
        CHECKS.same("the strongest", glass.press(0, 0, 200), 201);
        CHECKS.same("at the other end", glass.press(7, 5, 200), 200);
        glass.heat(-30);
        CHECKS.same("below 0", glass.press(3, 3, 1), -29);
        CHECKS.same("to 0", glass.press(3, 3, 29), 0);
        glass.wipe();
        CHECKS.same("less a BASE of -30", glass.press(3, 3, 1), 1);
    }

    private static void noiseOfARow() {
        CHECKS.sentence("Terms", "NOISE of a row: each CELL of it so much more.");
        for (int y = 0; y < 6; y++) {
            for (int much : new int[] {-40, -1, 0, 1, 40}) {
                Palmward glass = new Palmward();
                glass.noise(y, much);
                for (int cell = 0; cell < 48; cell++) {
                    CHECKS.same(much + " in row " + y + ", CHARGE of " + cell, glass.ofCell(cell % 8, cell / 8, 0),
                        cell / 8 == y ? much : 0);
                }
            }
        }
    }

    private static void noiseReturnsTheHum() {
        CHECKS.sentence("Promise 7", "Returns the HUM then.");
        Palmward glass = new Palmward();
        CHECKS.same("of nothing", glass.noise(0, 0), 0);
        CHECKS.same("40 is TOUCHED", glass.noise(0, 40), 0);
        CHECKS.same("without its sign: 320 by 40", glass.noise(5, -40), 8);
        CHECKS.same("19 is not: 472 by 48", glass.noise(0, -21), 9);
        CHECKS.same("19 and -19: 304 by 48", glass.noise(5, 21), 6);
        for (int y = 0; y < 6; y++) {
            glass.noise(y, 40);
        }
        CHECKS.same("without any that is not TOUCHED", glass.noise(0, 0), 0);
    }

    private static void signals() {
        CHECKS.sentence("Terms", "The SIGNAL of a CELL is CHARGE less BASE.");
        Palmward glass = new Palmward();
        glass.heat(-30);
        glass.wipe();
        glass.heat(30);
        glass.press(2, 1, 10);
        CHECKS.same("CHARGE", glass.ofCell(2, 1, 0), 40);
        CHECKS.same("BASE", glass.ofCell(2, 1, 1), -30);
        CHECKS.same("SIGNAL", glass.ofCell(2, 1, 2), 70);
        glass.wipe();
        glass.heat(-30);
        CHECKS.same("SIGNAL below 0", glass.ofCell(2, 1, 2), -60);
    }

    private static void touched() {
        CHECKS.sentence("Terms", "A CELL is TOUCHED, if its SIGNAL is 20 or more.");
        for (int charge = 18; charge <= 22; charge++) {
            Palmward glass = Fingers.charge(new Palmward(), 29, charge);
            CHECKS.same("SIGNAL " + charge, glass.ofCell(5, 3, 3), charge >= 20 ? 1 : 0);
        }
        Palmward warm = new Palmward();
        warm.heat(1);
        warm.wipe();
        CHECKS.same("CHARGE 20 with BASE 1", Fingers.charge(warm, 29, 19).ofCell(5, 3, 3), 0);
        Palmward cold = new Palmward();
        cold.heat(-1);
        cold.wipe();
        CHECKS.same("CHARGE 19 with BASE -1", Fingers.charge(cold, 29, 20).ofCell(5, 3, 3), 1);
        CHECKS.same("its CHARGE", cold.ofCell(5, 3, 0), 19);
        cold.heat(-30);
        CHECKS.same("far below 0", cold.ofCell(0, 0, 3), 0);
    }

    private static void untouchedHaveNoRegion() {
        CHECKS.sentence("Promise 10", "4 how many CELLS its REGION has (0, if it is not TOUCHED)");
        Palmward glass = Fingers.charge(new Palmward(), 0, 19);
        CHECKS.same("19", glass.ofCell(0, 0, 4), 0);
        CHECKS.same("20", Fingers.charge(glass, 0, 1).ofCell(0, 0, 4), 1);
        CHECKS.same("beside it", glass.ofCell(1, 0, 4), 0);
        glass.heat(30);
        CHECKS.same("all of them", glass.ofCell(7, 5, 4), 48);
    }

    private static void lastCall() {
        CHECKS.sentence("What it is", "An object is used for at most 512 calls after it has been made");
        Palmward frames = new Palmward();
        for (int call = 1; call <= 511; call++) {
            frames.frame();
        }
        CHECKS.same("call 512: many(0)", frames.many(0), 511);
        Palmward presses = new Palmward();
        for (int call = 1; call <= 511; call++) {
            presses.press(7, 5, 200);
        }
        CHECKS.same("call 512: press", presses.press(7, 5, 200), 512 * 200);
        Palmward noises = new Palmward();
        for (int call = 1; call <= 511; call++) {
            noises.noise(3, -40);
        }
        CHECKS.same("call 512: noise", noises.noise(3, -40), 512 * 40 * 8 / 48);
        Palmward held = Fingers.heldByHeat();
        for (int call = 30; call <= 511; call++) {
            held.frame();
        }
        CHECKS.same("call 512: FRAMES of a CONTACT", held.ofContact(0, 2), 12 + 482);
    }
}
