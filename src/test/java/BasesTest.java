/** Promise 8, (6) and what is thrown away, and promises 9 and 20: bases follow, wipe, calmIn. */
public final class BasesTest {
    private static final Checks CHECKS = new Checks("BasesTest");

    public static void main(String[] args) {
        steps();
        touchedCellsKeepTheirs();
        palmsDoNot();
        thrownAway();
        wipes();
        calm();
        neverCalm();
        sixtyTimes();
        CHECKS.end();
    }

    private static void steps() {
        int[][] due = {{0, 0}, {1, 1}, {9, 1}, {10, 4}, {19, 4}, {-1, -1}, {-9, -1}, {-10, -4}, {-40, -4}};
        for (int[] one : due) {
            Palmward glass = new Palmward();
            glass.noise(3, one[0]);
            glass.frame();
            CHECKS.same("BASE after a SIGNAL of " + one[0], glass.ofCell(4, 3, 1), one[1]);
            CHECKS.same("BASE beside", glass.ofCell(4, 2, 1), 0);
            CHECKS.same("what was noised is gone", glass.ofCell(4, 3, 0), 0);
        }
    }

    private static void touchedCellsKeepTheirs() {
        Palmward glass = new Palmward();
        glass.press(3, 3, 40);
        glass.frame();
        CHECKS.same("a TOUCHED CELL", glass.ofCell(3, 3, 1), 0);
        CHECKS.same("another one", glass.ofCell(2, 3, 1), 0);
        CHECKS.same("10 at a corner", glass.ofCell(2, 2, 1), 4);
        Palmward large = PeaksTest.comb(0, 1, 2, 3, 4, 6);
        large.frame();
        CHECKS.same("of 14 CELLS", large.ofCell(0, 0, 1), 0);
        CHECKS.isTrue("they are contacts", large.many(2) > 0);
    }

    private static void palmsDoNot() {
        Palmward palm = PeaksTest.comb(0, 1, 2, 3, 4, 5, 6);
        CHECKS.same("no CONTACT begins of a PALM", palm.frame(), 0);
        CHECKS.same("of 15 CELLS", palm.ofCell(0, 0, 1), 4);
        CHECKS.same("all of them", palm.ofCell(5, 1, 1), 4);
        Palmward all = new Palmward();
        all.heat(30);
        CHECKS.same("the whole glass is a PALM", all.many(9), 1);
        CHECKS.same("which is not thrown away", all.frame(), 0);
        CHECKS.same("and its BASE follows", all.ofCell(0, 0, 1), 4);
    }

    private static void thrownAway() {
        Palmward glass = new Palmward();
        glass.press(3, 3, 38);
        glass.frame();
        long contact = glass.ofContact(0, 2) * 100 + glass.ofContact(0, 3) * 10 + glass.many(3);
        glass.heat(12);
        glass.wipe();
        glass.heat(0);
        CHECKS.same("HUM 12", glass.many(7), 12);
        CHECKS.same("is not above the LIMIT", glass.frame(), 0);
        glass = new Palmward();
        glass.press(3, 3, 38);
        glass.frame();
        glass.limit(5);
        for (int y = 0; y < 6; y++) {
            glass.noise(y, -9);
        }
        glass.press(0, 0, 60);
        CHECKS.isTrue("it hums", glass.many(7) > 5);
        int base = glass.ofCell(7, 0, 1);
        CHECKS.same("THROWN away", glass.frame(), -2);
        CHECKS.same("no FRAME more", glass.many(0), 1);
        CHECKS.same("a THROWN one more", glass.many(1), 1);
        CHECKS.same("the CONTACT is as it was",
            glass.ofContact(0, 2) * 100 + glass.ofContact(0, 3) * 10 + glass.many(3), contact);
        CHECKS.same("BASES follow", glass.ofCell(7, 0, 1), base - 1);
        CHECKS.same("a TOUCHED one does not", glass.ofCell(0, 0, 1), 0);
        CHECKS.same("what was pressed is gone", glass.ofCell(0, 0, 0), 0);
        glass.limit(12);
        CHECKS.same("the next is taken", glass.frame(), 1);
        CHECKS.same("FRAMES", glass.many(0), 2);
    }

    private static void wipes() {
        Palmward glass = new Palmward();
        glass.press(1, 1, 38);
        glass.press(5, 3, 38);
        glass.frame();
        glass.heat(-17);
        glass.press(5, 3, 50);
        CHECKS.same("two there were", glass.wipe(), 2);
        CHECKS.same("CONTACTS", glass.many(2), 0);
        CHECKS.same("CANCELLED", glass.many(5), 2);
        CHECKS.same("LIFTED", glass.many(4), 0);
        CHECKS.same("FRAMES stay", glass.many(0), 1);
        for (int cell = 0; cell < 48; cell++) {
            CHECKS.same("CHARGE", glass.ofCell(cell % 8, cell / 8, 0), -17);
            CHECKS.same("BASE", glass.ofCell(cell % 8, cell / 8, 1), -17);
        }
        CHECKS.same("again", glass.wipe(), 0);
        CHECKS.same("no more CANCELLED", glass.many(5), 2);
        CHECKS.same("no PEAKS", glass.many(8), 0);
    }

    private static void calm() {
        int[][] due = {{0, 0}, {1, 1}, {9, 9}, {10, 7}, {19, 10}, {20, 11}, {30, 12}, {-1, 1}, {-9, 9}, {-10, 7},
            {-30, 12}};
        for (int[] one : due) {
            Palmward glass = new Palmward();
            glass.heat(one[0]);
            long before = glass.ofCell(3, 3, 1);
            CHECKS.same("calmIn by HEAT " + one[0], glass.calmIn(), one[1]);
            CHECKS.same("nothing is changed", glass.ofCell(3, 3, 1), before);
        }
        Palmward glass = new Palmward();
        glass.press(3, 3, 200);
        glass.noise(1, -40);
        CHECKS.same("what waits does not count", glass.calmIn(), 0);
        CHECKS.same("but stays", glass.ofCell(3, 3, 0), 200);
        glass.frame();
        CHECKS.isTrue("its traces do", glass.calmIn() > 0);
        int times = glass.calmIn();
        for (int frame = 0; frame < times; frame++) {
            CHECKS.same("frame by frame it gets calm", glass.calmIn(), times - frame);
            glass.frame();
        }
        CHECKS.same("calm", glass.calmIn(), 0);
    }

    /** A cell that is touched by heat alone keeps its base for ever. */
    private static void neverCalm() {
        Palmward glass = new Palmward();
        glass.heat(-30);
        glass.wipe();
        glass.heat(-15);
        for (int frame = 0; frame < 12; frame++) {
            glass.press(3, 3, 5);
            glass.frame();
        }
        CHECKS.same("it is held at", glass.ofCell(3, 3, 2), 15);
        glass.heat(-10);
        CHECKS.same("it is TOUCHED", glass.ofCell(3, 3, 2), 20);
        CHECKS.same("alone", glass.ofCell(3, 3, 4), 1);
        CHECKS.same("never calm", glass.calmIn(), -1);
        glass.heat(-11);
        CHECKS.isTrue("by less heat", glass.calmIn() > 0);
    }

    private static void sixtyTimes() {
        Palmward glass = new Palmward();
        for (int frame = 0; frame < 54; frame++) {
            follow(glass, 4 * frame + 15);
        }
        CHECKS.same("BASE", glass.ofCell(0, 0, 1), 216);
        CHECKS.same("calm behind 60", glass.calmIn(), 60);
        follow(glass, 4 * 54 + 15);
        CHECKS.same("BASE", glass.ofCell(0, 0, 1), 220);
        CHECKS.same("not behind 60", glass.calmIn(), -1);
    }

    private static void follow(Palmward glass, int charge) {
        glass.press(0, 0, Math.min(charge, 200));
        if (charge > 200) {
            glass.press(0, 0, charge - 200);
        }
        glass.frame();
    }
}
