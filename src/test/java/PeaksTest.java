/** Promise 11: the peaks of the frame that waits. */
public final class PeaksTest {
    private static final Checks CHECKS = new Checks("PeaksTest");

    public static void main(String[] args) {
        oneFinger();
        twins();
        belowZero();
        numbers();
        palms();
        wrongPeaks();
        CHECKS.end();
    }

    private static void check(Palmward glass, int peak, int... due) {
        String[] names = {"CELL", "PX", "PY", "SIZE", "PALM"};
        for (int what = 0; what < names.length; what++) {
            CHECKS.same(names[what] + " of " + peak, glass.ofPeak(peak, what), due[what]);
        }
    }

    private static void oneFinger() {
        Palmward glass = new Palmward();
        glass.press(3, 2, 40);
        CHECKS.same("one PEAK", glass.many(8), 1);
        check(glass, 0, 19, 24, 16, 5, 0);
        glass.press(4, 2, 10);
        CHECKS.isTrue("PX is nearer to the right", glass.ofPeak(0, 1) > 24);
        Palmward corner = new Palmward();
        corner.press(7, 5, 20);
        // (7, 5) 20, (6, 5) 10, (7, 4) 10, (6, 4) 5: x (16 * 300 + 45) / 90 = 53.8, y (16 * 210 + 45) / 90 = 37.8
        check(corner, 0, 47, 53, 37, 1, 0);
    }

    private static void twins() {
        Palmward glass = new Palmward();
        glass.press(2, 2, 20);
        glass.press(3, 2, 20);
        CHECKS.same("the same SIGNAL", glass.ofCell(2, 2, 2), glass.ofCell(3, 2, 2));
        CHECKS.same("of the same ones the smaller CELL alone", glass.many(8), 1);
        // (16 * 320 + 140) / 280 = 18.8 and (16 * 280 + 140) / 280 = 16.5
        check(glass, 0, 18, 18, 16, 2, 0);
        Palmward across = new Palmward();
        across.press(2, 2, 24);
        across.press(1, 3, 24);
        CHECKS.same("at a corner, too", across.many(8), 1);
        CHECKS.same("it is the upper one", across.ofPeak(0, 0), 17 + 1);
    }

    private static void belowZero() {
        Palmward glass = new Palmward();
        glass.press(3, 2, 40);
        glass.noise(1, -40);
        // only rows 2 and 3 have SIGNALS above 0: 80 and 40
        check(glass, 0, 19, 24, (16 * (80 * 2 + 40 * 3) + 120) / 240, 4, 0);
        glass.noise(3, -10);
        // row 3: 10 at x 3, and 0 at both others
        check(glass, 0, 19, 24, (16 * (80 * 2 + 10 * 3) + 90) / 180, 3, 0);
    }

    private static void numbers() {
        Palmward glass = new Palmward();
        glass.press(6, 4, 60);
        glass.press(1, 4, 50);
        glass.press(4, 1, 30);
        CHECKS.same("three PEAKS", glass.many(8), 3);
        CHECKS.same("by their CELLS: 0", glass.ofPeak(0, 0), 12);
        CHECKS.same("by their CELLS: 1", glass.ofPeak(1, 0), 33);
        CHECKS.same("by their CELLS: 2", glass.ofPeak(2, 0), 38);
        Palmward flat = new Palmward();
        flat.noise(2, 20);
        CHECKS.same("a flat row has one PEAK", flat.many(8), 1);
        CHECKS.same("its first CELL", flat.ofPeak(0, 0), 16);
        Palmward most = new Palmward();
        for (int cell = 0; cell < 12; cell++) {
            for (int once = 0; once < 20; once++) {
                // with a STRENGTH of 1 nothing is felt beside
                most.press(cell % 4 * 2, cell / 4 * 2, 1);
            }
        }
        CHECKS.same("twelve are the most", most.many(8), 12);
        CHECKS.same("the last of them", most.ofPeak(11, 0), 38);
    }

    /** Row 0 is touched, and in row 1 the cells that are pressed; so the region has 8 and as many as these. */
    static Palmward comb(int... columns) {
        Palmward glass = new Palmward();
        glass.noise(0, 20);
        glass.noise(1, 17);
        for (int x : columns) {
            glass.press(x, 1, 3);
        }
        return glass;
    }

    private static void palms() {
        Palmward large = comb(0, 1, 2, 3, 4, 6);
        CHECKS.same("SIZE 14", large.ofPeak(0, 3), 14);
        CHECKS.same("is no PALM", large.ofPeak(0, 4), 0);
        CHECKS.same("no PALMS", large.many(9), 0);
        CHECKS.isTrue("PEAKS there", large.many(8) > 0);
        large.press(5, 1, 3);
        CHECKS.same("SIZE 15", large.ofPeak(0, 3), 15);
        CHECKS.same("is a PALM", large.ofPeak(0, 4), 1);
        CHECKS.same("all in it are", large.many(9), large.many(8));
        large.press(7, 4, 60);
        CHECKS.same("a finger is none", large.many(9), large.many(8) - 1);
    }

    private static void wrongPeaks() {
        Palmward glass = new Palmward();
        CHECKS.refusesIndex("no PEAK at all", glass, () -> glass.ofPeak(0, 0));
        glass.press(3, 3, 30);
        CHECKS.refusesIndex("peak -1", glass, () -> glass.ofPeak(-1, 0));
        CHECKS.refusesIndex("peak 1", glass, () -> glass.ofPeak(1, 0));
        CHECKS.refusesIndex("peak 1 and what 5", glass, () -> glass.ofPeak(1, 5));
        CHECKS.refusesArgument("what 5", glass, () -> glass.ofPeak(0, 5));
        CHECKS.refusesArgument("what -1", glass, () -> glass.ofPeak(0, -1));
        glass.frame();
        CHECKS.refusesIndex("gone with the frame", glass, () -> glass.ofPeak(0, 0));
    }
}
