/** Promises 1 to 5: a new object, and what is told to it. */
public final class TellingTest {
    private static final Checks CHECKS = new Checks("TellingTest");

    public static void main(String[] args) {
        newObject();
        areas();
        wrongAreas();
        dials();
        limits();
        heats();
        CHECKS.end();
    }

    private static void newObject() {
        Palmward glass = new Palmward();
        for (int what = 0; what <= 9; what++) {
            CHECKS.same("new: many(" + what + ")", glass.many(what), 0);
        }
        for (int cell = 0; cell < 48; cell++) {
            for (int what = 0; what <= 4; what++) {
                CHECKS.same("new: ofCell", glass.ofCell(cell % 8, cell / 8, what), 0);
            }
        }
        CHECKS.same("new: calmIn()", glass.calmIn(), 0);
        CHECKS.same("new: wipe()", glass.wipe(), 0);
        CHECKS.same("new: frame()", glass.frame(), 0);
        CHECKS.same("new: dial(4) before", glass.dial(1), 4);
        CHECKS.same("new: limit before", glass.limit(1), 12);
        CHECKS.same("new: heat before", glass.heat(1), 0);
    }

    private static void areas() {
        Palmward glass = new Palmward();
        CHECKS.same("first area", glass.area(0, 7, 0, 5), 0);
        CHECKS.same("second area", glass.area(0, 0, 0, 0), 1);
        CHECKS.same("third area", glass.area(7, 7, 5, 5), 2);
        CHECKS.same("AREAS", glass.many(6), 3);
        CHECKS.refusesArgument("a wrong fourth area", glass, () -> glass.area(0, 8, 0, 5));
        CHECKS.same("fourth area", glass.area(7, 7, 5, 5), 3);
        CHECKS.refuses("a fifth area", glass, IllegalStateException.class, () -> glass.area(0, 0, 0, 0));
        CHECKS.refusesArgument("a wrong fifth area", glass, () -> glass.area(-1, 0, 0, 0));
        for (int area = 0; area < 4; area++) {
            for (int what = 0; what <= 4; what++) {
                CHECKS.same("a new area's ofArea", glass.ofArea(area, what), 0);
            }
        }
    }

    private static void wrongAreas() {
        Palmward glass = new Palmward();
        CHECKS.refusesArgument("left below 0", glass, () -> glass.area(-1, 3, 0, 5));
        CHECKS.refusesArgument("right below left", glass, () -> glass.area(4, 3, 0, 5));
        CHECKS.refusesArgument("right above 7", glass, () -> glass.area(4, 8, 0, 5));
        CHECKS.refusesArgument("left above 7", glass, () -> glass.area(8, 8, 0, 5));
        CHECKS.refusesArgument("top below 0", glass, () -> glass.area(0, 7, -1, 5));
        CHECKS.refusesArgument("bottom below top", glass, () -> glass.area(0, 7, 4, 3));
        CHECKS.refusesArgument("bottom above 5", glass, () -> glass.area(0, 7, 4, 6));
        CHECKS.refusesArgument("the largest numbers", glass,
            () -> glass.area(0, Integer.MAX_VALUE, 0, Integer.MAX_VALUE));
        CHECKS.refusesArgument("the smallest numbers", glass,
            () -> glass.area(Integer.MIN_VALUE, 0, Integer.MIN_VALUE, 0));
        CHECKS.same("AREAS", glass.many(6), 0);
    }

    private static void dials() {
        Palmward glass = new Palmward();
        CHECKS.refusesArgument("dial(0)", glass, () -> glass.dial(0));
        CHECKS.refusesArgument("dial(5)", glass, () -> glass.dial(5));
        CHECKS.refusesArgument("dial(-1)", glass, () -> glass.dial(-1));
        CHECKS.same("dial(1)", glass.dial(1), 4);
        CHECKS.same("dial(2)", glass.dial(2), 1);
        CHECKS.refusesArgument("dial(9)", glass, () -> glass.dial(9));
        CHECKS.same("dial(4)", glass.dial(4), 2);
        CHECKS.same("dial(3)", glass.dial(3), 4);
    }

    private static void limits() {
        Palmward glass = new Palmward();
        CHECKS.refusesArgument("limit(0)", glass, () -> glass.limit(0));
        CHECKS.refusesArgument("limit(31)", glass, () -> glass.limit(31));
        CHECKS.same("limit(30)", glass.limit(30), 12);
        CHECKS.refusesArgument("limit(-7)", glass, () -> glass.limit(-7));
        CHECKS.same("limit(1)", glass.limit(1), 30);
        CHECKS.same("limit(12)", glass.limit(12), 1);
    }

    private static void heats() {
        Palmward glass = new Palmward();
        CHECKS.refusesArgument("heat(-31)", glass, () -> glass.heat(-31));
        CHECKS.refusesArgument("heat(31)", glass, () -> glass.heat(31));
        CHECKS.same("heat(-30)", glass.heat(-30), 0);
        CHECKS.same("the CHARGE follows at once", glass.ofCell(3, 3, 0), -30);
        CHECKS.same("the BASE doesn't", glass.ofCell(3, 3, 1), 0);
        CHECKS.same("the SIGNAL does", glass.ofCell(3, 3, 2), -30);
        CHECKS.same("the HUM does", glass.many(7), 30);
        glass.press(3, 3, 50);
        CHECKS.same("heat(30)", glass.heat(30), -30);
        CHECKS.same("what was pressed stays", glass.ofCell(3, 3, 0), 80);
        CHECKS.same("the peaks follow: the press, and the first of all that are 30", glass.many(8), 2);
        CHECKS.same("heat(0)", glass.heat(0), 30);
    }
}
