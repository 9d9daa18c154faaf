/** Sentence by sentence, the boundary cases of regions, peaks, palms, places, hum and rows (promises 11, 15, 17). */
public final class EdgesOfPeaksTest {
    private static final Checks CHECKS = new Checks("EdgesOfPeaksTest");

    public static void main(String[] args) {
        regions();
        regionsOfManyShapes();
        greaterNeighbours();
        sameNeighbours();
        rimNeighbours();
        plateaus();
        numbers();
        mostAndNone();
        sizes();
        placesLeaveOut();
        placesAtTheRim();
        placesToTheNearest();
        hums();
        humOfNone();
        rows();
        byTheFrameThatWaits();
        CHECKS.end();
    }

    private static void regions() {
        CHECKS.sentence("Terms", "A REGION are TOUCHED CELLS that hang together by their sides.");
        int[][] beside = {{20, 1}, {18, 1}, {27, 1}, {11, 1}, {10, 0}, {12, 0}, {26, 0}, {28, 0}, {21, 0}, {35, 0}};
        for (int[] one : beside) {
            Palmward glass = Fingers.dots(new Palmward(), 19, one[0]);
            CHECKS.same("19 with " + one[0], glass.ofCell(3, 2, 4), 1 + one[1]);
            CHECKS.same(one[0] + " with 19", glass.ofCell(one[0] % 8, one[0] / 8, 4), 1 + one[1]);
        }
        for (int cell = 0; cell < 40; cell++) {
            for (int across = -1; across <= 1; across += 2) {
                int other = cell + 8 + across;
                if (cell % 8 + across >= 0 && cell % 8 + across <= 7) {
                    Palmward glass = Fingers.dots(new Palmward(), cell, other);
                    CHECKS.same(cell + " by a corner of " + other, glass.ofCell(cell % 8, cell / 8, 4), 1);
                    CHECKS.same(other + " by a corner of " + cell, glass.ofCell(other % 8, other / 8, 4), 1);
                }
            }
        }
        Palmward ends = Fingers.dots(new Palmward(), 7, 8, 39, 40);
        for (int cell : new int[] {7, 8, 39, 40}) {
            CHECKS.same("a row's end is not beside the next row: " + cell, ends.ofCell(cell % 8, cell / 8, 4), 1);
        }
        Palmward gap = Fingers.dots(new Palmward(), 16, 18);
        CHECKS.same("19 between them parts them", Fingers.charge(gap, 17, 19).ofCell(0, 2, 4), 1);
        CHECKS.same("20 joins them", Fingers.charge(gap, 17, 1).ofCell(0, 2, 4), 3);
    }

    private static void regionsOfManyShapes() {
        CHECKS.sentence("Promise 10", "how many CELLS its REGION has");
        int[] ring = {0, 1, 2, 3, 4, 8, 12, 16, 20, 24, 28, 32, 33, 34, 35, 36};
        Palmward glass = Fingers.dots(new Palmward(), ring);
        Fingers.dots(glass, 18);
        for (int cell : ring) {
            CHECKS.same("a ring's CELL " + cell, glass.ofCell(cell % 8, cell / 8, 4), 16);
        }
        CHECKS.same("what is in the ring", glass.ofCell(2, 2, 4), 1);
        int[][] cups = {{0, 8, 16, 17, 18, 10, 2}, {0, 1, 2, 10, 18, 17, 16}, {0, 8, 16, 1, 2, 10, 18},
            {2, 10, 18, 17, 16, 8, 9}, {2, 1, 0, 8, 16, 17, 18}};
        for (int[] cup : cups) {
            Palmward one = Fingers.dots(new Palmward(), cup);
            for (int cell : cup) {
                CHECKS.same("a cup's CELL " + cell, one.ofCell(cell % 8, cell / 8, 4), 7);
            }
        }
        Palmward snake = new Palmward();
        for (int y = 0; y < 6; y += 2) {
            snake.noise(y, 20);
        }
        CHECKS.same("three rows apart", snake.ofCell(0, 2, 4), 8);
        Fingers.dots(snake, 15, 24);
        CHECKS.same("joined at one end each", snake.ofCell(7, 4, 4), 8 + 1 + 8 + 1 + 8);
        CHECKS.same("seen from the other end, too", snake.ofCell(0, 0, 4), 26);
        CHECKS.same("not the CELLS between", snake.ofCell(3, 1, 4), 0);
    }

    private static void greaterNeighbours() {
        CHECKS.sentence("Terms", "A PEAK is a TOUCHED CELL none of whose 8 neighbours has a greater SIGNAL");
        for (int other : new int[] {10, 11, 12, 18, 20, 26, 27, 28}) {
            Palmward glass = Fingers.charge(new Palmward(), 19, 30);
            Fingers.charge(glass, other, 29);
            CHECKS.same("29 at " + other, Fingers.peaks(glass), "19");
            Fingers.charge(glass, other, 2);
            CHECKS.same("31 at " + other, Fingers.peaks(glass), Integer.toString(other));
        }
        for (int other : new int[] {1, 2, 3, 4, 5, 9, 13, 17, 21, 25, 29, 33, 34, 35, 36, 37}) {
            Palmward glass = Fingers.charge(new Palmward(), 19, 30);
            Fingers.charge(glass, other, 31);
            CHECKS.same("two off, at " + other, glass.many(8), 2);
        }
        CHECKS.same("19 is none", Fingers.charge(new Palmward(), 19, 19).many(8), 0);
        CHECKS.same("20 is one", Fingers.charge(new Palmward(), 19, 20).many(8), 1);
    }

    private static void sameNeighbours() {
        CHECKS.sentence("Terms", "or the same one with a smaller number");
        for (int cell = 0; cell < 48; cell++) {
            for (int other = 0; other < 48; other++) {
                if (other != cell && Math.abs(other % 8 - cell % 8) <= 1 && Math.abs(other / 8 - cell / 8) <= 1) {
                    Palmward glass = Fingers.dots(new Palmward(), cell, other);
                    CHECKS.same(cell + " and the same at " + other, Fingers.peaks(glass),
                        Integer.toString(Math.min(cell, other)));
                    Fingers.charge(glass, other, 1);
                    CHECKS.same(cell + " and 1 more at " + other, Fingers.peaks(glass), Integer.toString(other));
                }
            }
        }
    }

    private static void rimNeighbours() {
        CHECKS.sentence("Terms", "none of whose 8 neighbours");
        CHECKS.same("a row's end and the next row", Fingers.peaks(Fingers.dots(new Palmward(), 7, 8)), "7 8");
        CHECKS.same("a row's end and the row after that", Fingers.peaks(Fingers.dots(new Palmward(), 7, 16)), "7 16");
        CHECKS.same("both ends of a row", Fingers.peaks(Fingers.dots(new Palmward(), 16, 23)), "16 23");
        CHECKS.same("top and bottom", Fingers.peaks(Fingers.dots(new Palmward(), 3, 43)), "3 43");
        CHECKS.same("the corners", Fingers.peaks(Fingers.dots(new Palmward(), 0, 7, 40, 47)), "0 7 40 47");
    }

    private static void plateaus() {
        CHECKS.sentence("Terms", "has a greater SIGNAL, or the same one with a smaller number");
        Palmward row = new Palmward();
        row.noise(2, 20);
        CHECKS.same("a flat row", Fingers.peaks(row), "16");
        Fingers.charge(row, 18, 1);
        CHECKS.same("a summit two off leaves its first CELL", Fingers.peaks(row), "16 18");
        Fingers.charge(row, 17, 2);
        CHECKS.same("a summit beside it does not", Fingers.peaks(row), "17");
        Palmward all = new Palmward();
        all.heat(20);
        CHECKS.same("the whole glass", Fingers.peaks(all), "0");
        Fingers.charge(all, 47, 1);
        CHECKS.same("with a summit at its end", Fingers.peaks(all), "0 47");
    }

    private static void numbers() {
        CHECKS.sentence("Terms", "PEAKS are numbered from 0 by their CELLS");
        Palmward glass = Fingers.dots(new Palmward(), 47, 33, 0);
        Fingers.charge(glass, 33, 50);
        CHECKS.same("not by when, nor by how much", Fingers.peaks(glass), "0 33 47");
        Fingers.dots(glass, 2);
        CHECKS.same("one more between them", Fingers.peaks(glass), "0 2 33 47");
    }

    private static void mostAndNone() {
        CHECKS.sentence("Promise 11", "if there is no such PEAK");
        Palmward none = new Palmward();
        CHECKS.refusesIndex("none at all", none, () -> none.ofPeak(0, 0));
        Palmward most = Fingers.dots(new Palmward(), 0, 2, 4, 6, 16, 18, 20, 22, 32, 34, 36, 38);
        CHECKS.same("the most", Fingers.peaks(most), "0 2 4 6 16 18 20 22 32 34 36 38");
        CHECKS.same("the last of them", most.ofPeak(11, 0), 38);
        CHECKS.refusesIndex("behind the last of them", most, () -> most.ofPeak(12, 0));
        CHECKS.refusesIndex("ahead of the first", most, () -> most.ofPeak(-1, 0));
    }

    private static void sizes() {
        CHECKS.sentence("Terms", "Its SIZE are the CELLS of its REGION; it is a PALM with a SIZE above 14.");
        for (int size = 8; size <= 16; size++) {
            Palmward glass = Fingers.region(new Palmward(), size);
            Fingers.dots(glass, 47);
            CHECKS.same("SIZE", glass.ofPeak(0, 3), size);
            CHECKS.same("a PALM of " + size, glass.ofPeak(0, 4), size > 14 ? 1 : 0);
            CHECKS.same("many(9) with " + size, glass.many(9), size > 14 ? 1 : 0);
            CHECKS.same("another SIZE", glass.ofPeak(1, 3), 1);
            CHECKS.same("another one is none", glass.ofPeak(1, 4), 0);
        }
        Palmward all = new Palmward();
        all.heat(20);
        Fingers.charge(all, 47, 1);
        CHECKS.same("the whole glass", all.ofPeak(1, 3), 48);
        CHECKS.same("both are PALMS", all.many(9), 2);
    }

    private static void placesLeaveOut() {
        CHECKS.sentence("Terms", "over the CELLS of the 3 times 3 around it that are there and have a SIGNAL above 0");
        int[][] due = {{-40, 16}, {-1, 16}, {0, 16}, {1, 15}};
        for (int[] one : due) {
            Palmward glass = Fingers.dots(new Palmward(), 19);
            glass.noise(1, one[0]);
            CHECKS.same("PY by " + one[0] + " above", glass.ofPeak(0, 2), one[1]);
            CHECKS.same("PX by " + one[0] + " above", glass.ofPeak(0, 1), 24);
        }
        Palmward far = Fingers.dots(new Palmward(), 19);
        far.noise(0, 19);
        far.noise(4, 40);
        CHECKS.same("two off does not count", far.ofPeak(0, 2), 16);
        Palmward untouched = Fingers.charge(Fingers.dots(new Palmward(), 19), 20, 19);
        CHECKS.same("what is not TOUCHED does", untouched.ofPeak(0, 1), 24 + 4);
        Palmward corner = Fingers.charge(Fingers.dots(new Palmward(), 19), 28, 19);
        CHECKS.same("PX by a corner", corner.ofPeak(0, 1), 24 + 4);
        CHECKS.same("PY by a corner", corner.ofPeak(0, 2), 16 + 4);
    }

    private static void placesAtTheRim() {
        CHECKS.sentence("Terms", "that are there");
        Palmward left = Fingers.dots(new Palmward(), 16);
        left.noise(1, 19);
        left.noise(3, 19);
        // 20 + 19 + 19 at x 0, 19 + 19 at x 1; rows 1 and 3 are alike
        CHECKS.same("PX at the left rim", left.ofPeak(0, 1), 3);
        CHECKS.same("PY at the left rim", left.ofPeak(0, 2), 16);
        Palmward right = Fingers.dots(new Palmward(), 23);
        right.noise(1, 19);
        right.noise(3, 19);
        CHECKS.same("PX at the right rim", right.ofPeak(0, 1), 53);
        CHECKS.same("PY at the right rim", right.ofPeak(0, 2), 16);
        Palmward corners = Fingers.dots(new Palmward(), 0, 47);
        CHECKS.same("the least PX", corners.ofPeak(0, 1), 0);
        CHECKS.same("the least PY", corners.ofPeak(0, 2), 0);
        CHECKS.same("the greatest PX", corners.ofPeak(1, 1), 56);
        CHECKS.same("the greatest PY", corners.ofPeak(1, 2), 40);
    }

    private static void placesToTheNearest() {
        CHECKS.sentence("Terms", "likewise with y (so in eighths of a CELL, to the nearest)");
        // {at the CELL, beside it, the place's eighths more to the right or below, and to the left or above}
        int[][] due = {{31, 2, 0, 0}, {30, 2, 1, 0}, {29, 2, 1, -1}, {26, 6, 2, -1}, {27, 6, 1, -1}, {20, 20, 4, 4}};
        for (int[] one : due) {
            CHECKS.same("to the right " + one[1] + " of " + one[0], pair(one, 20).ofPeak(0, 1), 24 + one[2]);
            CHECKS.same("below " + one[1] + " of " + one[0], pair(one, 27).ofPeak(0, 2), 16 + one[2]);
            int back = one[0] == one[1] ? -4 : one[3];
            CHECKS.same("to the left " + one[1] + " of " + one[0], pair(one, 18).ofPeak(0, 1), 24 + back);
            CHECKS.same("above " + one[1] + " of " + one[0], pair(one, 11).ofPeak(0, 2), 16 + back);
        }
    }

    private static Palmward pair(int[] charges, int other) {
        return Fingers.charge(Fingers.charge(new Palmward(), 19, charges[0]), other, charges[1]);
    }

    private static void hums() {
        CHECKS.sentence("Terms", "The HUM is the sum of SIGNALS, each without its sign, of all CELLS that are not TOUCHED");
        Palmward glass = new Palmward();
        for (int y = 0; y < 6; y++) {
            glass.noise(y, y < 3 ? 19 : -19);
        }
        CHECKS.same("19 and -19", glass.many(7), 19);
        glass.noise(0, 1);
        CHECKS.same("20 no more", glass.many(7), 19);
        glass.noise(1, -19);
        CHECKS.same("0 is not TOUCHED, too: 608 by 40", glass.many(7), 15);
        Palmward cold = new Palmward();
        cold.noise(0, -40);
        CHECKS.same("far below 0 is not TOUCHED: 320 by 48", cold.many(7), 6);
        cold.noise(1, 25);
        CHECKS.same("320 by 40", cold.many(7), 8);
    }

    private static void humOfNone() {
        CHECKS.sentence("Terms", "divided by how many these are (0 without any)");
        Palmward glass = new Palmward();
        glass.heat(19);
        for (int cell = 0; cell < 47; cell++) {
            Fingers.charge(glass, cell, 1);
        }
        CHECKS.same("one is not TOUCHED", glass.many(7), 19);
        Fingers.charge(glass, 47, 1);
        CHECKS.same("none is not", glass.many(7), 0);
        CHECKS.same("and it is taken", glass.frame(), 0);
        CHECKS.same("one of 48 hums less than 1", Fingers.charge(new Palmward(), 0, 19).many(7), 0);
    }

    private static void rows() {
        CHECKS.sentence("Promise 15", "0 the sum of SIGNALS, 1 TOUCHED CELLS, 2 PEAKS there");
        Palmward glass = Fingers.dots(new Palmward(), 40, 42, 44, 46);
        glass.noise(0, -40);
        glass.noise(1, 20);
        int[][] due = {{-320, 0, 0}, {160, 8, 1}, {0, 0, 0}, {0, 0, 0}, {0, 0, 0}, {80, 4, 4}};
        for (int y = 0; y < 6; y++) {
            for (int what = 0; what <= 2; what++) {
                CHECKS.same("ofRow(" + y + ", " + what + ")", glass.ofRow(y, what), due[y][what]);
            }
        }
    }

    private static void byTheFrameThatWaits() {
        CHECKS.sentence("Promise 17", "8 PEAKS, 9 those that are PALMS (7 to 9 by the frame that waits)");
        Palmward glass = Fingers.region(new Palmward(), 15);
        CHECKS.same("a PEAK", glass.many(8), 1);
        CHECKS.same("a PALM", glass.many(9), 1);
        glass.frame();
        CHECKS.same("its PEAK is gone", glass.many(8), 0);
        CHECKS.same("its PALM is gone", glass.many(9), 0);
        CHECKS.same("15 CELLS of -4: HUM 60 by 48", glass.many(7), 1);
        glass.wipe();
        CHECKS.same("wiped: no HUM", glass.many(7), 0);
        glass.heat(30);
        CHECKS.same("by HEAT at once", glass.many(9), 1);
    }
}
