/** In the document's order, its sentences that name no boundary: each by one case that was reckoned by hand. */
public final class PlainSentencesTest {
    private static final Checks CHECKS = new Checks("PlainSentencesTest");

    public static void main(String[] args) {
        wholeNumbers();
        beside();
        places();
        begins();
        tellsAnArea();
        tellsTheDial();
        tellsTheLimit();
        tellsHeat();
        presses();
        noises();
        takesAFrame();
        wipes();
        cells();
        peaks();
        contacts();
        wheres();
        aparts();
        rows();
        areas();
        counts();
        guesses();
        wouldMatches();
        keeps();
        digests();
        CHECKS.end();
    }

    private static void says(String part, String words) {
        CHECKS.sentence(part, words);
    }

    /** CELL 9 has 30, CELL 10 20 and CELL 17 10: one PEAK, at (11, 9). */
    private static Palmward heap() {
        Palmward glass = new Palmward();
        Fingers.charge(glass, 9, 30);
        Fingers.charge(glass, 10, 20);
        return Fingers.charge(glass, 17, 10);
    }

    /** With a DIAL of 2 from (8, 8) by (12, 12) to (22, 14), towards (32, 16). */
    private static Palmward walked() {
        Palmward glass = Fingers.touched(9);
        glass.dial(2);
        Fingers.frame(glass, 18);
        Fingers.frame(glass, 20);
        return glass;
    }

    private static void wholeNumbers() {
        says("Terms", "All numbers are whole, if nothing else is said");
        Palmward glass = new Palmward();
        glass.press(0, 0, 23);
        CHECKS.same("23 / 2", Fingers.signal(glass, 1), 11);
        CHECKS.same("23 / 4", Fingers.signal(glass, 9), 5);
        CHECKS.same("27 / 47", glass.many(7), 0);
        CHECKS.same("(16 * (11 + 5) + 50) / 100", glass.ofPeak(0, 1), 3);
    }

    private static void beside() {
        says("Terms", "that of the 4 beside it STRENGTH / 2");
        Palmward glass = new Palmward();
        glass.press(3, 3, 101);
        for (int cell : new int[] {19, 26, 28, 35}) {
            CHECKS.same("CHARGE of " + cell, glass.ofCell(cell % 8, cell / 8, 0), 50);
        }
    }

    private static void places() {
        says("Terms", "the sum of 16 times SIGNAL times x, and the sum of these SIGNALS, divided by 2 times that sum");
        CHECKS.same("(16 * (30 * 1 + 20 * 2 + 10 * 1) + 60) / 120", heap().ofPeak(0, 1), 11);
        CHECKS.same("(16 * (30 * 1 + 20 * 1 + 10 * 2) + 60) / 120", heap().ofPeak(0, 2), 9);
    }

    private static void begins() {
        Palmward glass = heap();
        glass.frame();
        says("Terms", "X, Y, LX, LY are its PLACE");
        CHECKS.same("X", glass.where(0, 0), 11);
        CHECKS.same("Y", glass.where(0, 1), 9);
        CHECKS.same("LX", glass.ofContact(0, 0), 11);
        CHECKS.same("LY", glass.ofContact(0, 1), 9);
        says("Terms", "FRAMES is 1, MISSES, DX, DY, MOVED 0");
        CHECKS.same("all", Fingers.contact(glass, 0), "11 9 1 0 0 -1 11.0 9.0 0.0 0.0 0.0 ");
    }

    private static int areaAt(int x, int y) {
        Palmward glass = new Palmward();
        glass.area(1, 4, 2, 3);
        Fingers.frame(glass, 8 * y + x);
        return glass.ofContact(0, 5);
    }

    private static void tellsAnArea() {
        Palmward glass = new Palmward();
        says("Promise 2", "Tells an AREA.");
        glass.area(1, 4, 2, 3);
        CHECKS.same("AREAS", glass.many(6), 1);
        says("Promise 2", "- `left`: its first column");
        CHECKS.same("column 0", areaAt(0, 2), -1);
        CHECKS.same("column 1", areaAt(1, 2), 0);
        says("Promise 2", "- `right`: its last one");
        CHECKS.same("column 4", areaAt(4, 3), 0);
        CHECKS.same("column 5", areaAt(5, 3), -1);
        says("Promise 2", "- `top`: its first row");
        CHECKS.same("row 1", areaAt(4, 1), -1);
        CHECKS.same("row 2", areaAt(4, 2), 0);
        says("Promise 2", "- `bottom`: its last one");
        CHECKS.same("row 3", areaAt(1, 3), 0);
        CHECKS.same("row 4", areaAt(1, 4), -1);
        says("Promise 2", "Returns its number.");
        CHECKS.same("the second", glass.area(1, 4, 2, 3), 1);
        CHECKS.same("the third", glass.area(0, 0, 5, 5), 2);
    }

    private static void tellsTheDial() {
        says("Promise 3", "Tells the DIAL.");
        Palmward glass = Fingers.touched(17);
        glass.dial(2);
        Fingers.frame(glass, 19);
        CHECKS.same("DX by a DIAL of 2", glass.where(0, 2), 8);
        says("Promise 3", "- `dial`: the DIAL");
        glass.dial(1);
        Fingers.frame(glass, 19);
        CHECKS.same("DX by a DIAL of 1: a quarter of what is left", glass.where(0, 2), 2);
    }

    private static void tellsTheLimit() {
        says("Promise 4", "Tells the LIMIT.");
        Palmward glass = new Palmward();
        glass.limit(5);
        CHECKS.same("a HUM of 6", Fingers.noiseAll(glass, 6).frame(), -2);
        says("Promise 4", "- `limit`: the LIMIT");
        glass.limit(8);
        CHECKS.same("6 once more", Fingers.noiseAll(glass, 6).frame(), 0);
    }

    private static void tellsHeat() {
        says("Promise 5", "Tells HEAT.");
        Palmward glass = new Palmward();
        glass.press(2, 3, 6);
        glass.heat(7);
        CHECKS.same("with what was pressed", glass.ofCell(2, 3, 0), 13);
        CHECKS.same("alone", glass.ofCell(7, 5, 0), 7);
        says("Promise 5", "- `heat`: HEAT from now on");
        glass.frame();
        CHECKS.same("behind a FRAME", glass.ofCell(7, 5, 0), 7);
        glass.wipe();
        CHECKS.same("wiped", glass.ofCell(7, 5, 0), 7);
        CHECKS.same("told anew", glass.heat(-7), 7);
    }

    private static void presses() {
        says("Promise 6", "PRESSES.");
        Palmward glass = new Palmward();
        glass.press(5, 1, 8);
        int sum = glass.ofRow(0, 0) + glass.ofRow(1, 0) + glass.ofRow(2, 0);
        CHECKS.same("rows 0 to 2 together", sum, 8 + 4 * 4 + 4 * 2);
        says("Promise 6", "- `x`: the column");
        CHECKS.same("beside in the row", glass.ofCell(6, 1, 0), 4);
        says("Promise 6", "- `y`: the row");
        CHECKS.same("beside in the column", glass.ofCell(5, 2, 0), 4);
        says("Promise 6", "- `strength`: the STRENGTH");
        CHECKS.same("there", glass.ofCell(5, 1, 0), 8);
        CHECKS.same("not at (1, 5)", glass.ofCell(1, 5, 0), 0);
    }

    private static void noises() {
        says("Promise 7", "NOISES.");
        Palmward glass = new Palmward();
        glass.noise(4, -6);
        CHECKS.same("8 CELLS", glass.ofRow(4, 0), -48);
        says("Promise 7", "- `y`: the row");
        CHECKS.same("the row above", glass.ofRow(3, 0), 0);
        CHECKS.same("the row below", glass.ofRow(5, 0), 0);
        says("Promise 7", "- `much`: how much");
        CHECKS.same("a CELL", glass.ofCell(6, 4, 0), -6);
        glass.noise(4, 2);
        CHECKS.same("together", glass.ofCell(6, 4, 0), -4);
    }

    private static void takesAFrame() {
        says("Promise 8", "Takes a FRAME.");
        Palmward glass = Fingers.dots(new Palmward(), 9, 38);
        glass.frame();
        CHECKS.same("FRAMES", glass.many(0), 1);
        CHECKS.same("BEGAN", glass.many(3), 2);
        CHECKS.same("PEAKS that wait", glass.many(8), 0);
    }

    private static void wipes() {
        says("Promise 9", "Wipes:");
        Palmward glass = Fingers.touched(9, 38);
        glass.heat(3);
        glass.press(4, 4, 90);
        glass.wipe();
        CHECKS.same("CONTACTS", glass.many(2), 0);
        CHECKS.same("BASE", Fingers.base(glass, 36), 3);
        CHECKS.same("CHARGE", glass.ofCell(4, 4, 0), 3);
    }

    private static void cells() {
        Palmward glass = new Palmward();
        glass.heat(4);
        glass.wipe();
        glass.press(6, 2, 41);
        says("Promise 10", "- `x`: a column");
        CHECKS.same("beside", glass.ofCell(7, 2, 0), 24);
        says("Promise 10", "- `y`: a row");
        CHECKS.same("at a corner", glass.ofCell(7, 3, 0), 14);
        says("Promise 10", "0 CHARGE");
        CHECKS.same("CHARGE", glass.ofCell(6, 2, 0), 45);
        says("Promise 10", "1 BASE");
        CHECKS.same("BASE", glass.ofCell(6, 2, 1), 4);
        says("Promise 10", "2 SIGNAL");
        CHECKS.same("SIGNAL", glass.ofCell(6, 2, 2), 41);
        says("Promise 10", "3 1 if it is TOUCHED, otherwise 0");
        CHECKS.same("20 beside", glass.ofCell(7, 2, 3), 1);
        CHECKS.same("10 at a corner", glass.ofCell(7, 3, 3), 0);
        says("Promise 10", "4 how many CELLS its REGION has");
        CHECKS.same("it, and 4 beside it", glass.ofCell(6, 2, 4), 5);
        says("Promise 10", "Returns that, by the frame that waits.");
        glass.frame();
        CHECKS.same("CHARGE behind the FRAME", glass.ofCell(6, 2, 0), 4);
        CHECKS.same("REGION behind the FRAME", glass.ofCell(6, 2, 4), 0);
    }

    private static void peaks() {
        Palmward glass = Fingers.dots(heap(), 44);
        says("Promise 11", "- `peak`: a PEAK of the frame that waits");
        CHECKS.same("the other one's CELL", glass.ofPeak(1, 0), 44);
        CHECKS.same("the other one's PX", glass.ofPeak(1, 1), 32);
        CHECKS.same("the other one's PY", glass.ofPeak(1, 2), 40);
        says("Promise 11", "0 its CELL");
        CHECKS.same("CELL", glass.ofPeak(0, 0), 9);
        says("Promise 11", "1 PX");
        CHECKS.same("PX", glass.ofPeak(0, 1), 11);
        says("Promise 11", "2 PY");
        CHECKS.same("PY", glass.ofPeak(0, 2), 9);
        says("Promise 11", "3 SIZE");
        CHECKS.same("CELLS 9 and 10", glass.ofPeak(0, 3), 2);
        says("Promise 11", "4 1 if it is a PALM, otherwise 0");
        CHECKS.same("a finger", glass.ofPeak(0, 4), 0);
        glass.heat(30);
        CHECKS.same("the whole glass", glass.ofPeak(0, 4), 1);
        says("Promise 11", "Returns that.");
        CHECKS.same("48 CELLS", glass.ofPeak(0, 3), 48);
    }

    private static void contacts() {
        Palmward glass = new Palmward();
        glass.area(4, 7, 0, 5);
        Fingers.frame(glass, 9, 38);
        Fingers.frame(glass, 10, 38);
        Fingers.frame(glass, 10);
        says("Promise 12", "- `name`: a NAME");
        CHECKS.same("name 0", Fingers.contact(glass, 0), "16 8 3 0 0 -1 16.0 8.0 0.0 0.0 8.0 ");
        CHECKS.same("name 1", Fingers.contact(glass, 1), "48 32 2 1 0 0 48.0 32.0 0.0 0.0 0.0 ");
        says("Promise 12", "0 LX");
        CHECKS.same("LX", glass.ofContact(1, 0), 48);
        says("Promise 12", "1 LY");
        CHECKS.same("LY", glass.ofContact(1, 1), 32);
        says("Promise 12", "2 FRAMES");
        CHECKS.same("matched twice since", glass.ofContact(0, 2), 3);
        says("Promise 12", "3 MISSES");
        CHECKS.same("missed once", glass.ofContact(1, 3), 1);
        says("Promise 12", "5 its AREA (NONE)");
        CHECKS.same("right", glass.ofContact(1, 5), 0);
        CHECKS.same("left", glass.ofContact(0, 5), -1);
        says("Promise 12", "Returns that.");
        CHECKS.same("claims nothing", glass.ofContact(0, 4), 0);
    }

    private static void wheres() {
        Palmward glass = walked();
        Fingers.frame(glass, 20, 32);
        says("Promise 13", "- `name`: a NAME");
        CHECKS.same("another one", glass.where(1, 1), 32);
        says("Promise 13", "0 X");
        CHECKS.same("22, and a half of 10", glass.where(0, 0), 27);
        says("Promise 13", "1 Y");
        CHECKS.same("14, and a half of 2", glass.where(0, 1), 15);
        says("Promise 13", "2 DX");
        CHECKS.same("DX", glass.where(0, 2), 5);
        says("Promise 13", "3 DY");
        CHECKS.same("DY", glass.where(0, 3), 1);
        says("Promise 13", "4 MOVED");
        CHECKS.same("19 and 7", glass.where(0, 4), 26);
        says("Promise 13", "Returns that.");
        glass.frame();
        CHECKS.same("missed: X stays", glass.where(0, 0), 27);
    }

    private static void aparts() {
        Palmward glass = Fingers.touched(9, 29, 40);
        says("Promise 14", "Returns the distance of both CONTACTS");
        CHECKS.same("(8, 8) and (40, 24)", glass.apart(0, 1), 48);
        says("Promise 14", "- `one`: a NAME");
        CHECKS.same("(0, 40) and (8, 8)", glass.apart(2, 0), 40);
        says("Promise 14", "- `other`: a NAME");
        CHECKS.same("(40, 24) and (0, 40)", glass.apart(1, 2), 56);
    }

    private static void rows() {
        Palmward glass = Fingers.dots(heap(), 13);
        says("Promise 15", "- `y`: a row");
        CHECKS.same("row 2 has CELL 17", glass.ofRow(2, 0), 10);
        CHECKS.same("which is not TOUCHED", glass.ofRow(2, 1), 0);
        says("Promise 15", "0 the sum of SIGNALS");
        CHECKS.same("30, 20 and 20", glass.ofRow(1, 0), 70);
        says("Promise 15", "1 TOUCHED CELLS");
        CHECKS.same("9, 10 and 13", glass.ofRow(1, 1), 3);
        says("Promise 15", "2 PEAKS there");
        CHECKS.same("9 and 13", glass.ofRow(1, 2), 2);
        says("Promise 15", "Returns that, by the frame that waits.");
        glass.frame();
        CHECKS.same("behind the FRAME", glass.ofRow(1, 0), 0);
    }

    private static void areas() {
        Palmward glass = new Palmward();
        glass.area(0, 7, 0, 5);
        Fingers.frame(glass, 12);
        glass.frame();
        glass.frame();
        Fingers.frame(glass, 18, 20);
        Fingers.frame(glass, 16, 22);
        glass.frame();
        glass.frame();
        Fingers.frame(glass, 17);
        Fingers.frame(glass, 19);
        glass.frame();
        glass.frame();
        for (int frame = 1; frame <= 8; frame++) {
            Fingers.frame(glass, 38);
        }
        says("Promise 16", "0 TAPS");
        CHECKS.same("of CELL 12", glass.ofArea(0, 0), 1);
        says("Promise 16", "1 PINCHES");
        CHECKS.same("from 16 to 48, both", glass.ofArea(0, 1), 2);
        says("Promise 16", "2 PANS");
        CHECKS.same("from 8 to 24", glass.ofArea(0, 2), 1);
        says("Promise 16", "3 HOLDS");
        CHECKS.same("of CELL 38", glass.ofArea(0, 3), 1);
        says("Promise 16", "4 CONTACTS now whose AREA it is");
        CHECKS.same("that of CELL 38", glass.ofArea(0, 4), 1);
        says("Promise 16", "- `area`: an AREA");
        glass.area(0, 7, 0, 5);
        CHECKS.same("another one", glass.ofArea(1, 1), 0);
        says("Promise 16", "Returns that.");
        glass.wipe();
        CHECKS.same("the HOLD is taken back", glass.ofArea(0, 3), 0);
        CHECKS.same("the PINCHES are not", glass.ofArea(0, 1), 2);
    }

    private static void counts() {
        Palmward glass = new Palmward();
        glass.area(0, 7, 0, 5);
        glass.area(0, 0, 0, 0);
        Fingers.frame(glass, 9, 12, 38);
        glass.noise(0, 18);
        says("Promise 17", "2 CONTACTS");
        CHECKS.same("three fingers", glass.many(2), 3);
        says("Promise 17", "6 AREAS");
        CHECKS.same("two were told", glass.many(6), 2);
        says("Promise 17", "7 the HUM");
        CHECKS.same("8 times 18, by 48", glass.many(7), 3);
        says("Promise 17", "Returns that.");
        CHECKS.same("FRAMES", glass.many(0), 1);
    }

    private static void guesses() {
        Palmward glass = walked();
        says("Promise 18", "Returns the GUESS.");
        CHECKS.same("22, and 10", glass.guess(0, 1, false), 32);
        says("Promise 18", "- `ahead`: how many frames");
        CHECKS.same("22, and 30", glass.guess(0, 3, false), 52);
        CHECKS.same("22", glass.guess(0, 0, false), 22);
        says("Promise 18", "- `isY`: whether of Y, otherwise of X");
        CHECKS.same("14, and 6", glass.guess(0, 3, true), 20);
        says("Promise 18", "- `name`: a NAME");
        Fingers.frame(glass, 20, 32);
        CHECKS.same("another one", glass.guess(1, 3, true), 32);
    }

    private static void wouldMatches() {
        Palmward glass = Fingers.dots(Fingers.touched(9, 38), 7, 10, 38);
        says("Promise 19", "Returns the PEAK of the frame that waits with which it would be matched");
        CHECKS.same("CELL 10, as CELL 7 is too far", glass.wouldMatch(0), 1);
        says("Promise 19", "- `name`: a NAME");
        CHECKS.same("CELL 38", glass.wouldMatch(1), 2);
    }

    private static void keeps() {
        Palmward glass = Fingers.touched(9, 38);
        Fingers.charge(Fingers.charge(glass, 9, 9), 38, 9);
        says("Promise 21", "- `name`: a NAME");
        CHECKS.same("name 0", glass.keepBy(0, 11), 9);
        CHECKS.same("name 1", glass.keepBy(1, 11), 38);
        says("Promise 21", "- `strength`: a STRENGTH");
        CHECKS.same("9 and 10 are not enough", glass.keepBy(0, 10), -1);
    }

    private static void digests() {
        Palmward glass = new Palmward();
        glass.area(0, 7, 0, 5);
        Fingers.frame(glass, 9);
        Fingers.dots(glass, 10);
        glass.limit(30);
        glass.heat(1);
        long[] many = {1, 0, 1, 1, 0, 0, 1, 1, 1, 0};
        long d = next(58249, many);
        says("Promise 22", "many() of 0 to 9");
        checkAll(many, what -> glass.many(what));
        says("Promise 22", "CELL by CELL ofCell() of 1 and 2");
        for (int cell = 0; cell < 48; cell++) {
            d = next(d, 0, cell == 10 ? 21 : 1);
            CHECKS.same("SIGNAL of " + cell, Fingers.signal(glass, cell), cell == 10 ? 21 : 1);
        }
        // CELL 10 has 21, the 8 around it 1 each: (16 * 29 * 2 + 29) / 58 and (16 * 29 * 1 + 29) / 58
        long[] peak = {10, 16, 8, 1, 0};
        d = next(d, peak);
        says("Promise 22", "PEAK by PEAK ofPeak() of 0 to 4");
        checkAll(peak, what -> glass.ofPeak(0, what));
        says("Promise 22", "NAME by NAME of a CONTACT that there is: the NAME, ofContact() of 0 to 5, wouldMatch(), "
            + "then 16 times where() of 0 to 4, and 16 times guess() of 2 of X, then of Y");
        long[] contact = {8, 8, 1, 0, 0, 0};
        checkAll(contact, what -> glass.ofContact(0, what));
        d = next(next(next(d, 0), contact), 0, 128, 128, 0, 0, 0, 128, 128);
        says("Promise 22", "AREA by AREA ofArea() of 0 to 4");
        long[] area = {0, 0, 0, 0, 1};
        checkAll(area, what -> glass.ofArea(0, what));
        d = next(d, area);
        says("Promise 22", "row by row ofRow() of 0 to 2");
        for (int y = 0; y < 6; y++) {
            long[] row = {y == 1 ? 28 : 8, y == 1 ? 1 : 0, y == 1 ? 1 : 0};
            int it = y;
            checkAll(row, what -> glass.ofRow(it, what));
            d = next(d, row);
        }
        says("Promise 22", "calmIn().");
        CHECKS.same("calmIn", glass.calmIn(), 1);
        d = next(d, 1);
        says("Promise 22", "Computes a checksum.");
        CHECKS.same("of all these", glass.digest(), d);
        says("Promise 22", "Returns d.");
        CHECKS.same("of a new glass: 125 times 0", new Palmward().digest(), next(58249, new long[125]));
    }

    /** A call that is told by one number what to answer. */
    private interface Asked {
        int of(int what);
    }

    private static void checkAll(long[] due, Asked asked) {
        for (int what = 0; what < due.length; what++) {
            CHECKS.same("of " + what, asked.of(what), due[what]);
        }
    }

    private static long next(long d, long... numbers) {
        long mixed = d;
        for (long number : numbers) {
            mixed = mixed * 31 + number;
        }
        return mixed;
    }
}
