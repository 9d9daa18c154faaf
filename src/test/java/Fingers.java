/** Glasses that are touched exactly: a STRENGTH of 1 is felt nowhere beside, so each CELL has what it was given. */
final class Fingers {
    private Fingers() {
    }

    static Palmward charge(Palmward glass, int cell, int much) {
        for (int once = 0; once < much; once++) {
            glass.press(cell % 8, cell / 8, 1);
        }
        return glass;
    }

    /** The CELL alone is TOUCHED, its PEAK's PLACE is 8 times x and 8 times y, and no BASE moves by it. */
    static Palmward dots(Palmward glass, int... cells) {
        for (int cell : cells) {
            charge(glass, cell, 20);
        }
        return glass;
    }

    static int frame(Palmward glass, int... cells) {
        return dots(glass, cells).frame();
    }

    static Palmward touched(int... cells) {
        Palmward glass = new Palmward();
        frame(glass, cells);
        return glass;
    }

    static Palmward noiseAll(Palmward glass, int much) {
        for (int y = 0; y < 6; y++) {
            glass.noise(y, much);
        }
        return glass;
    }

    /** One REGION of row 0 and so many CELLS of row 1, from the left; its one PEAK is CELL 0, at (4, 4) or so. */
    static Palmward region(Palmward glass, int size) {
        glass.noise(0, 20);
        for (int x = 0; x < size - 8; x++) {
            charge(glass, 8 + x, 20);
        }
        return glass;
    }

    /** By 29 calls: CELL 27 has a SIGNAL of 20 by HEAT alone, so that it is TOUCHED without a press for ever. */
    static Palmward heldByHeat() {
        Palmward glass = new Palmward();
        glass.limit(30);
        glass.heat(-30);
        glass.wipe();
        glass.heat(-15);
        for (int frame = 0; frame < 12; frame++) {
            glass.press(3, 3, 5);
            glass.frame();
        }
        glass.heat(-10);
        return glass;
    }

    /** Column by column where the CONTACT of CELL 0 goes, and by which DIAL: a walk on which floats and doubles part. */
    static final int[][] WALK = {{1, 3}, {1, 1}, {1, 1}, {1, 1}, {0, 3}, {2, 1}, {0, 3}, {1, 3}, {2, 1}, {0, 1}, {0, 1},
        {1, 3}, {2, 3}, {1, 1}};

    static int signal(Palmward glass, int cell) {
        return glass.ofCell(cell % 8, cell / 8, 2);
    }

    static int base(Palmward glass, int cell) {
        return glass.ofCell(cell % 8, cell / 8, 1);
    }

    /** The CELLS of all PEAKS of the frame that waits. */
    static String peaks(Palmward glass) {
        StringBuilder cells = new StringBuilder();
        for (int peak = 0; peak < glass.many(8); peak++) {
            cells.append(peak == 0 ? "" : " ").append(glass.ofPeak(peak, 0));
        }
        return cells.toString();
    }

    /** All that can be asked of a CONTACT by ofContact and where. */
    static String contact(Palmward glass, int name) {
        StringBuilder answers = new StringBuilder();
        for (int what = 0; what <= 5; what++) {
            answers.append(glass.ofContact(name, what)).append(' ');
        }
        for (int what = 0; what <= 4; what++) {
            answers.append(glass.where(name, what)).append(' ');
        }
        return answers.toString();
    }
}
