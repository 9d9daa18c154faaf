/** Promises 6, 7, 10 and 15: what is pressed and noised, cells and rows. */
public final class CellsTest {
    private static final Checks CHECKS = new Checks("CellsTest");

    public static void main(String[] args) {
        pressInside();
        pressAtTheRim();
        pressAgain();
        wrongPresses();
        noises();
        wrongNoises();
        touched();
        regions();
        wrongCells();
        rows();
        CHECKS.end();
    }

    private static void pressInside() {
        Palmward glass = new Palmward();
        CHECKS.same("press(3, 2, 47)", glass.press(3, 2, 47), 47);
        int[][] due = {{11, 23, 11}, {23, 47, 23}, {11, 23, 11}};
        for (int y = 0; y < 6; y++) {
            for (int x = 0; x < 8; x++) {
                boolean isNear = x >= 2 && x <= 4 && y >= 1 && y <= 3;
                CHECKS.same("CHARGE of " + x + ", " + y, glass.ofCell(x, y, 0), isNear ? due[y - 1][x - 2] : 0);
            }
        }
    }

    private static void pressAtTheRim() {
        int[][] corners = {{0, 0, 1, 1}, {7, 0, 6, 1}, {0, 5, 1, 4}, {7, 5, 6, 4}};
        for (int[] at : corners) {
            Palmward glass = new Palmward();
            CHECKS.same("press at a corner", glass.press(at[0], at[1], 200), 200);
            CHECKS.same("beside it", glass.ofCell(at[2], at[1], 0), 100);
            CHECKS.same("above or below it", glass.ofCell(at[0], at[3], 0), 100);
            CHECKS.same("across", glass.ofCell(at[2], at[3], 0), 50);
            CHECKS.same("all of it", sumOfRows(glass), 450);
        }
        Palmward glass = new Palmward();
        glass.press(0, 2, 40);
        CHECKS.same("nothing runs over to the row above", glass.ofCell(7, 1, 0), 0);
        CHECKS.same("all at the left rim", sumOfRows(glass), 40 + 3 * 20 + 2 * 10);
    }

    private static void pressAgain() {
        Palmward glass = new Palmward();
        CHECKS.same("the weakest", glass.press(3, 2, 1), 1);
        CHECKS.same("a half of it is nothing", sumOfRows(glass), 1);
        CHECKS.same("once more", glass.press(3, 2, 3), 4);
        CHECKS.same("beside", glass.ofCell(2, 2, 0), 1);
        CHECKS.same("a press beside adds", glass.press(4, 2, 8), 9);
        CHECKS.same("there", glass.ofCell(3, 2, 0), 8);
        glass.heat(-5);
        CHECKS.same("the SIGNAL has HEAT in it", glass.press(3, 2, 2), 5);
        glass.frame();
        CHECKS.same("what was pressed is gone", glass.ofCell(3, 2, 0), -5);
        CHECKS.same("and less the BASE", glass.press(3, 2, 10), 10 - 5 - glass.ofCell(3, 2, 1));
    }

    private static void wrongPresses() {
        Palmward glass = new Palmward();
        CHECKS.refusesIndex("x -1", glass, () -> glass.press(-1, 0, 10));
        CHECKS.refusesIndex("x 8", glass, () -> glass.press(8, 0, 10));
        CHECKS.refusesIndex("y -1", glass, () -> glass.press(0, -1, 10));
        CHECKS.refusesIndex("y 6", glass, () -> glass.press(0, 6, 10));
        CHECKS.refusesIndex("x 8 and strength 0", glass, () -> glass.press(8, 0, 0));
        CHECKS.refusesIndex("y 6 and strength 201", glass, () -> glass.press(0, 6, 201));
        CHECKS.refusesArgument("strength 0", glass, () -> glass.press(0, 0, 0));
        CHECKS.refusesArgument("strength -9", glass, () -> glass.press(0, 0, -9));
        CHECKS.refusesArgument("strength 201", glass, () -> glass.press(0, 0, 201));
    }

    private static void noises() {
        Palmward glass = new Palmward();
        CHECKS.same("8 cells of 19, by 48", glass.noise(0, 19), 3);
        CHECKS.same("a touched row hums no more", glass.noise(0, 1), 0);
        CHECKS.same("without its sign: 8 cells of 40, by 40", glass.noise(5, -40), 8);
        CHECKS.same("nothing changes by 0", glass.noise(3, 0), 8);
        CHECKS.same("the row has it", glass.ofRow(5, 0), -320);
        CHECKS.same("another has not", glass.ofRow(4, 0), 0);
        CHECKS.same("many(7) says so, too", glass.many(7), 8);
        Palmward full = new Palmward();
        for (int y = 0; y < 6; y++) {
            full.noise(y, 40);
        }
        CHECKS.same("no cell is not touched", full.many(7), 0);
        CHECKS.same("all cells are one region", full.ofCell(7, 5, 4), 48);
    }

    private static void wrongNoises() {
        Palmward glass = new Palmward();
        CHECKS.refusesIndex("y -1", glass, () -> glass.noise(-1, 3));
        CHECKS.refusesIndex("y 6", glass, () -> glass.noise(6, 3));
        CHECKS.refusesIndex("y 6 and much 41", glass, () -> glass.noise(6, 41));
        CHECKS.refusesArgument("much 41", glass, () -> glass.noise(5, 41));
        CHECKS.refusesArgument("much -41", glass, () -> glass.noise(0, -41));
    }

    private static void touched() {
        Palmward glass = new Palmward();
        glass.press(4, 4, 19);
        CHECKS.same("19 is not TOUCHED", glass.ofCell(4, 4, 3), 0);
        CHECKS.same("so it has no REGION", glass.ofCell(4, 4, 4), 0);
        glass.press(4, 4, 1);
        CHECKS.same("20 is TOUCHED", glass.ofCell(4, 4, 3), 1);
        CHECKS.same("a REGION of 1", glass.ofCell(4, 4, 4), 1);
        glass.heat(1);
        glass.wipe();
        glass.press(4, 4, 19);
        CHECKS.same("CHARGE 20", glass.ofCell(4, 4, 0), 20);
        CHECKS.same("BASE 1", glass.ofCell(4, 4, 1), 1);
        CHECKS.same("SIGNAL 19", glass.ofCell(4, 4, 2), 19);
        CHECKS.same("not TOUCHED by its SIGNAL", glass.ofCell(4, 4, 3), 0);
    }

    private static void regions() {
        Palmward glass = new Palmward();
        glass.press(0, 0, 20);
        glass.press(1, 1, 16);
        CHECKS.same("0, 0", glass.ofCell(0, 0, 2), 24);
        CHECKS.same("1, 1", glass.ofCell(1, 1, 2), 21);
        CHECKS.same("1, 0", glass.ofCell(1, 0, 2), 18);
        CHECKS.same("by a corner they don't hang together", glass.ofCell(0, 0, 4), 1);
        CHECKS.same("nor the other one", glass.ofCell(1, 1, 4), 1);
        glass.press(1, 0, 2);
        CHECKS.same("by their sides they do", glass.ofCell(1, 1, 4), 3);
        CHECKS.same("all three", glass.ofCell(0, 0, 4), 3);
        CHECKS.same("not TOUCHED beside", glass.ofCell(0, 1, 4), 0);
        Palmward rim = new Palmward();
        rim.noise(2, 20);
        rim.press(0, 3, 12);
        rim.press(0, 3, 8);
        CHECKS.same("a row's end is no side of the next row", rim.ofCell(7, 2, 4), 9);
    }

    private static void wrongCells() {
        Palmward glass = new Palmward();
        CHECKS.refusesIndex("x -1", glass, () -> glass.ofCell(-1, 0, 0));
        CHECKS.refusesIndex("x 8", glass, () -> glass.ofCell(8, 0, 0));
        CHECKS.refusesIndex("y -1", glass, () -> glass.ofCell(0, -1, 0));
        CHECKS.refusesIndex("y 6", glass, () -> glass.ofCell(0, 6, 0));
        CHECKS.refusesIndex("x 8 and what 5", glass, () -> glass.ofCell(8, 0, 5));
        CHECKS.refusesArgument("what 5", glass, () -> glass.ofCell(7, 5, 5));
        CHECKS.refusesArgument("what -1", glass, () -> glass.ofCell(0, 0, -1));
    }

    private static void rows() {
        Palmward glass = new Palmward();
        glass.press(1, 2, 50);
        glass.press(6, 2, 30);
        glass.noise(4, -7);
        CHECKS.same("sum of SIGNALS", glass.ofRow(2, 0), 50 + 25 + 25 + 30 + 15 + 15);
        CHECKS.same("TOUCHED ones", glass.ofRow(2, 1), 4);
        CHECKS.same("PEAKS", glass.ofRow(2, 2), 2);
        CHECKS.same("the row above", glass.ofRow(1, 0), 25 + 12 + 12 + 15 + 7 + 7);
        CHECKS.same("TOUCHED there", glass.ofRow(1, 1), 1);
        CHECKS.same("no PEAK there", glass.ofRow(1, 2), 0);
        CHECKS.same("below 0", glass.ofRow(4, 0), -56);
        CHECKS.refusesIndex("y -1", glass, () -> glass.ofRow(-1, 0));
        CHECKS.refusesIndex("y 6", glass, () -> glass.ofRow(6, 0));
        CHECKS.refusesIndex("y 6 and what 3", glass, () -> glass.ofRow(6, 3));
        CHECKS.refusesArgument("what 3", glass, () -> glass.ofRow(5, 3));
        CHECKS.refusesArgument("what -1", glass, () -> glass.ofRow(0, -1));
    }

    private static int sumOfRows(Palmward glass) {
        int sum = 0;
        for (int y = 0; y < 6; y++) {
            sum += glass.ofRow(y, 0);
        }
        return sum;
    }
}
