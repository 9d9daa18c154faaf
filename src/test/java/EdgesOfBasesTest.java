/** Sentence by sentence, the boundary cases of step (6), of wipe and of calmIn (promises 8, 9, 20). */
public final class EdgesOfBasesTest {
    private static final Checks CHECKS = new Checks("EdgesOfBasesTest");

    public static void main(String[] args) {
        steps();
        stepsFarOff();
        nearerToCharge();
        touchedKeepTheirs();
        largeRegions();
        asTheyAreAhead();
        behindTheContacts();
        whatWaitedIsGone();
        wipes();
        wipeReturns();
        calm();
        calmWithoutWhatWaits();
        calmBehindSixty();
        neverCalm();
        calmOfAPalm();
        calmChangesNothing();
        CHECKS.end();
    }

    private static void steps() {
        CHECKS.sentence("Terms", "with a SIGNAL of -10 or less BASE is 4 less, with one of 10 or more 4 more; otherwise 1 nearer to CHARGE");
        for (int signal = -40; signal <= 40; signal++) {
            Palmward glass = new Palmward();
            glass.noise(4, signal);
            glass.frame();
            int due = signal <= -10 ? -4 : signal < 0 ? -1 : signal == 0 ? 0 : signal < 10 ? 1 : signal < 20 ? 4 : 0;
            CHECKS.same("BASE by " + signal, Fingers.base(glass, 32), due);
            CHECKS.same("BASE at the row's end by " + signal, Fingers.base(glass, 39), due);
            CHECKS.same("BASE of another row", Fingers.base(glass, 31), 0);
        }
    }

    private static void stepsFarOff() {
        CHECKS.sentence("Terms", "with a SIGNAL of -10 or less BASE is 4 less");
        Palmward cold = new Palmward();
        for (int time = 0; time < 100; time++) {
            cold.noise(0, -40);
        }
        CHECKS.same("SIGNAL -4000 is thrown away", cold.frame(), -2);
        CHECKS.same("BASE", Fingers.base(cold, 0), -4);
        Palmward hot = new Palmward();
        for (int time = 0; time < 100; time++) {
            hot.noise(0, 40);
            hot.noise(1, 40);
        }
        CHECKS.same("SIGNAL 4000 of 16 CELLS", hot.frame(), 0);
        CHECKS.same("BASE", Fingers.base(hot, 15), 4);
        CHECKS.same("not of the others", Fingers.base(hot, 16), 0);
    }

    private static void nearerToCharge() {
        CHECKS.sentence("Terms", "otherwise 1 nearer to CHARGE");
        Palmward glass = new Palmward();
        glass.heat(-14);
        int[] due = {-4, -8, -9, -10, -11, -12, -13, -14, -14, -14};
        for (int frame = 0; frame < due.length; frame++) {
            glass.frame();
            CHECKS.same("BASE, frame " + frame, Fingers.base(glass, 20), due[frame]);
        }
        glass.heat(-12);
        int[] back = {-13, -12, -12};
        for (int frame = 0; frame < back.length; frame++) {
            glass.frame();
            CHECKS.same("and back, frame " + frame, Fingers.base(glass, 20), back[frame]);
        }
    }

    private static void touchedKeepTheirs() {
        CHECKS.sentence("Terms", "that is not TOUCHED, or is in a REGION of more than 14 CELLS");
        Palmward one = Fingers.charge(new Palmward(), 19, 19);
        Fingers.charge(one, 22, 20);
        one.frame();
        CHECKS.same("19 is not TOUCHED", Fingers.base(one, 19), 4);
        CHECKS.same("20 is", Fingers.base(one, 22), 0);
        for (int size = 13; size <= 16; size++) {
            Palmward glass = Fingers.region(new Palmward(), size);
            glass.frame();
            for (int cell = 0; cell < 16; cell++) {
                CHECKS.same("of " + size + " CELLS, BASE of " + cell, Fingers.base(glass, cell),
                    size > 14 && cell < size ? 4 : 0);
            }
        }
    }

    private static void largeRegions() {
        CHECKS.sentence("Terms", "in a REGION of more than 14 CELLS");
        Palmward all = new Palmward();
        all.heat(20);
        CHECKS.same("48 CELLS are taken", all.frame(), 0);
        for (int cell = 0; cell < 48; cell++) {
            CHECKS.same("BASE of " + cell, Fingers.base(all, cell), 4);
        }
        Palmward two = Fingers.region(new Palmward(), 15);
        two.noise(3, 20);
        two.frame();
        CHECKS.same("in the large one", Fingers.base(two, 0), 4);
        CHECKS.same("in the small one", Fingers.base(two, 24), 0);
    }

    /** As its first CELL's BASE is 4 more, a REGION of 15 would be one of 14. */
    private static void asTheyAreAhead() {
        CHECKS.sentence("Terms", "each CELL (all by SIGNALS as they are ahead of (6))");
        Palmward glass = Fingers.region(new Palmward(), 15);
        glass.frame();
        CHECKS.same("the first", Fingers.base(glass, 0), 4);
        CHECKS.same("the last", Fingers.base(glass, 14), 4);
        CHECKS.same("all of them: HUM 60 by 48", glass.many(7), 1);
        CHECKS.same("the sum of row 0", glass.ofRow(0, 0), -32);
        CHECKS.same("the sum of row 1", glass.ofRow(1, 0), -28);
    }

    private static void behindTheContacts() {
        CHECKS.sentence("Terms", "Otherwise, all by SIGNALS as they are");
        Palmward glass = Fingers.charge(new Palmward(), 19, 20);
        Fingers.charge(glass, 20, 19);
        CHECKS.same("one BEGINS", glass.frame(), 1);
        CHECKS.same("by the SIGNALS ahead of (6)", glass.ofContact(0, 0), 28);
        CHECKS.same("which have changed then", Fingers.base(glass, 20), 4);
    }

    private static void whatWaitedIsGone() {
        CHECKS.sentence("Terms", "Then what was pressed and noised is gone.");
        Palmward glass = new Palmward();
        glass.heat(7);
        glass.press(3, 3, 50);
        glass.noise(5, -9);
        CHECKS.same("taken", glass.frame(), 1);
        for (int cell = 0; cell < 48; cell++) {
            CHECKS.same("HEAT alone is in the CHARGE of " + cell, glass.ofCell(cell % 8, cell / 8, 0), 7);
        }
    }

    private static void wipes() {
        CHECKS.sentence("Promise 9", "each BASE becomes HEAT, what was pressed and noised is gone");
        for (int heat : new int[] {-30, -1, 0, 1, 30}) {
            Palmward glass = new Palmward();
            glass.press(3, 3, 200);
            glass.frame();
            glass.heat(heat);
            glass.press(5, 1, 200);
            glass.noise(4, -40);
            glass.wipe();
            for (int cell = 0; cell < 48; cell++) {
                CHECKS.same("BASE by HEAT " + heat, Fingers.base(glass, cell), heat);
                CHECKS.same("SIGNAL by HEAT " + heat, Fingers.signal(glass, cell), 0);
            }
            CHECKS.same("PEAKS", glass.many(8), 0);
            CHECKS.same("FRAMES stay", glass.many(0), 1);
            CHECKS.same("HEAT stays", glass.heat(0), heat);
        }
    }

    private static void wipeReturns() {
        CHECKS.sentence("Promise 9", "Returns how many CONTACTS there were.");
        CHECKS.same("none", new Palmward().wipe(), 0);
        CHECKS.same("one", Fingers.touched(19).wipe(), 1);
        Palmward five = Fingers.touched(0, 2, 4, 6, 16, 18);
        CHECKS.same("five", five.wipe(), 5);
        CHECKS.same("CANCELLED", five.many(5), 5);
        CHECKS.same("there are none", five.many(2), 0);
        CHECKS.same("again", five.wipe(), 0);
        Palmward missed = Fingers.touched(19);
        missed.frame();
        CHECKS.same("a missed one", missed.wipe(), 1);
        CHECKS.same("is not LIFTED", missed.many(4), 0);
        CHECKS.same("and found no more", Fingers.frame(missed, 19), 1);
        CHECKS.same("but BEGINS", missed.many(3), 2);
    }

    private static void calm() {
        CHECKS.sentence("Promise 20", "Returns behind how many times (6)");
        int[][] due = {{0, 0}, {1, 1}, {9, 9}, {10, 7}, {13, 10}, {14, 8}, {19, 10}, {-1, 1}, {-9, 9}, {-10, 7},
            {-13, 10}, {-14, 8}, {-30, 12}, {20, 11}, {30, 12}};
        for (int[] one : due) {
            Palmward glass = new Palmward();
            glass.heat(one[0]);
            CHECKS.same("by " + one[0], glass.calmIn(), one[1]);
        }
        Palmward far = new Palmward();
        far.heat(30);
        far.wipe();
        far.heat(-30);
        CHECKS.same("by -60", far.calmIn(), 21);
        for (int times = 21; times > 0; times--) {
            CHECKS.same("one by one", far.calmIn(), times);
            far.frame();
        }
        CHECKS.same("calm", far.calmIn(), 0);
    }

    private static void calmWithoutWhatWaits() {
        CHECKS.sentence("Promise 20", "(nothing of what waits, either), all SIGNALS would be 0 (0, if they are so without what waits)");
        Palmward glass = new Palmward();
        glass.press(3, 3, 200);
        glass.noise(0, -40);
        CHECKS.same("what waits is nothing", glass.calmIn(), 0);
        glass.heat(1);
        CHECKS.same("HEAT is", glass.calmIn(), 1);
        glass.wipe();
        CHECKS.same("not behind a wipe", glass.calmIn(), 0);
        Palmward first = Fingers.charge(new Palmward(), 0, 1);
        first.frame();
        CHECKS.same("the first CELL alone", first.calmIn(), 1);
        Palmward one = Fingers.charge(new Palmward(), 47, 1);
        one.frame();
        CHECKS.same("the last CELL alone", one.calmIn(), 1);
        Fingers.charge(one, 47, 1);
        CHECKS.same("what waits does not mend it", one.calmIn(), 1);
    }

    private static void calmBehindSixty() {
        CHECKS.sentence("Promise 20", "NONE, if not behind 60");
        Palmward sixty = based(216);
        CHECKS.same("a BASE of 216", Fingers.base(sixty, 0), 216);
        CHECKS.same("behind 60", sixty.calmIn(), 60);
        Palmward more = based(217);
        CHECKS.same("a BASE of 217", Fingers.base(more, 0), 217);
        CHECKS.same("behind 61", more.calmIn(), -1);
        more.frame();
        CHECKS.same("behind 60, after one", more.calmIn(), 60);
        for (int frame = 0; frame < 60; frame++) {
            CHECKS.isTrue("not calm yet", more.many(7) > 0 || more.calmIn() > 0);
            more.frame();
        }
        CHECKS.same("calm", more.calmIn(), 0);
    }

    /** Row 0 gets this BASE, in steps of 4 and then of 1. */
    private static Palmward based(int base) {
        Palmward glass = new Palmward();
        for (int now = 0; now < base; now += base - now >= 4 ? 4 : 1) {
            int charge = now + (base - now >= 4 ? 15 : 1);
            for (int left = charge; left > 0; left -= 40) {
                glass.noise(0, Math.min(left, 40));
            }
            glass.frame();
        }
        return glass;
    }

    /** A CELL that is TOUCHED by HEAT alone keeps its BASE for ever. */
    private static void neverCalm() {
        CHECKS.sentence("Promise 20", "NONE, if not behind 60");
        Palmward glass = Fingers.heldByHeat();
        CHECKS.same("SIGNAL 20 by HEAT", glass.ofCell(3, 3, 2), 20);
        CHECKS.same("never", glass.calmIn(), -1);
        glass.heat(-11);
        CHECKS.same("SIGNAL 19", glass.ofCell(3, 3, 2), 19);
        CHECKS.same("as 19 gets calm", glass.calmIn(), 10);
    }

    private static void calmOfAPalm() {
        CHECKS.sentence("Promise 20", "behind how many times (6), if nothing is pressed or noised");
        Palmward glass = new Palmward();
        glass.heat(30);
        CHECKS.same("30, 26, 22, 18, 14, 10, 6 .. 0", glass.calmIn(), 12);
        glass.frame();
        CHECKS.same("one less", glass.calmIn(), 11);
        glass.limit(1);
        CHECKS.same("whatever would be thrown away", glass.calmIn(), 11);
    }

    private static void calmChangesNothing() {
        CHECKS.sentence("Promise 20", "if nothing is pressed or noised (nothing of what waits, either)");
        Palmward glass = Fingers.touched(19);
        glass.heat(-7);
        Fingers.dots(glass, 20);
        long before = glass.digest();
        glass.calmIn();
        CHECKS.same("the digest", glass.digest(), before);
        CHECKS.same("what waits", glass.ofCell(4, 2, 0), 13);
        CHECKS.same("the BASE", glass.ofCell(7, 5, 1), 0);
    }
}
