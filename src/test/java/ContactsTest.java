/** Promise 8, (2) to (4), and promises 12 to 14: contacts move, are missed, lifted, cancelled and begin. */
public final class ContactsTest {
    private static final Checks CHECKS = new Checks("ContactsTest");

    public static void main(String[] args) {
        begins();
        beginsInAnArea();
        fiveAtMost();
        moves();
        dials();
        movedIsTheGreatest();
        misses();
        cancelledByAPalm();
        freeNamesAtOnce();
        apart();
        wrongCalls();
        CHECKS.end();
    }

    private static void begins() {
        Palmward glass = new Palmward();
        glass.area(0, 3, 0, 5);
        glass.area(0, 7, 0, 2);
        glass.area(3, 3, 2, 2);
        glass.press(2, 2, 38);
        glass.press(5, 2, 38);
        glass.press(2, 5, 38);
        glass.press(6, 5, 38);
        CHECKS.same("frame() says how many", glass.frame(), 4);
        int[] due = {16, 16, 1, 0, 0, 1};
        for (int what = 0; what <= 5; what++) {
            CHECKS.same("ofContact(0, " + what + ")", glass.ofContact(0, what), due[what]);
        }
        double[] where = {16, 16, 0, 0, 0};
        for (int what = 0; what <= 4; what++) {
            CHECKS.same("where(0, " + what + ")", glass.where(0, what), where[what]);
        }
        CHECKS.same("the latest AREA that has the CELL", glass.ofContact(1, 5), 1);
        CHECKS.same("the first one has it alone", glass.ofContact(2, 5), 0);
        CHECKS.same("none has it", glass.ofContact(3, 5), -1);
        CHECKS.same("BEGAN", glass.many(3), 4);
        glass.area(0, 7, 0, 5);
        CHECKS.same("a later AREA changes nothing", glass.ofContact(3, 5), -1);
    }

    private static void beginsInAnArea() {
        for (int cell = 0; cell < 48; cell++) {
            Palmward glass = new Palmward();
            glass.area(2, 5, 1, 4);
            glass.area(3, 3, 2, 2);
            glass.press(cell % 8, cell / 8, 38);
            glass.frame();
            boolean isInside = cell % 8 >= 2 && cell % 8 <= 5 && cell / 8 >= 1 && cell / 8 <= 4;
            CHECKS.same("the AREA of " + cell, glass.ofContact(0, 5), cell == 19 ? 1 : isInside ? 0 : -1);
        }
    }

    private static void fiveAtMost() {
        Palmward glass = new Palmward();
        for (int finger = 0; finger < 6; finger++) {
            glass.press(finger % 3 * 3, finger / 3 * 3, 38);
        }
        CHECKS.same("six PEAKS", glass.many(8), 6);
        CHECKS.same("five CONTACTS", glass.frame(), 5);
        CHECKS.same("five BEGAN", glass.many(3), 5);
        CHECKS.same("the last PEAK has none", glass.ofContact(4, 0), 24);
    }

    private static void moves() {
        Palmward glass = new Palmward();
        glass.press(1, 2, 38);
        glass.frame();
        glass.press(3, 2, 38);
        CHECKS.same("still one", glass.frame(), 1);
        CHECKS.same("LX", glass.ofContact(0, 0), 24);
        CHECKS.same("LY", glass.ofContact(0, 1), 16);
        CHECKS.same("FRAMES", glass.ofContact(0, 2), 2);
        CHECKS.same("X", glass.where(0, 0), 24);
        CHECKS.same("Y", glass.where(0, 1), 16);
        CHECKS.same("DX", glass.where(0, 2), 16);
        CHECKS.same("DY", glass.where(0, 3), 0);
        CHECKS.same("MOVED", glass.where(0, 4), 16);
        CHECKS.same("none began", glass.many(3), 1);
    }

    private static void dials() {
        for (int dial = 1; dial <= 4; dial++) {
            Palmward glass = new Palmward();
            glass.press(1, 2, 38);
            glass.frame();
            glass.dial(dial);
            glass.press(3, 2, 38);
            glass.frame();
            CHECKS.same("DX by DIAL " + dial, glass.where(0, 2), 4 * dial);
            CHECKS.same("X by DIAL " + dial, glass.where(0, 0), 8 + 4 * dial);
            CHECKS.same("LX by DIAL " + dial, glass.ofContact(0, 0), 24);
            glass = new Palmward();
            glass.press(3, 1, 38);
            glass.frame();
            glass.dial(dial);
            glass.press(3, 3, 38);
            glass.frame();
            CHECKS.same("DY by DIAL " + dial, glass.where(0, 3), 4 * dial);
            CHECKS.same("Y by DIAL " + dial, glass.where(0, 1), 8 + 4 * dial);
            CHECKS.same("LY by DIAL " + dial, glass.ofContact(0, 1), 24);
            CHECKS.same("MOVED by DIAL " + dial, glass.where(0, 4), 4 * dial);
        }
        Palmward glass = new Palmward();
        glass.dial(1);
        glass.press(1, 2, 38);
        glass.frame();
        float x = 8;
        for (int frame = 0; frame < 60; frame++) {
            glass.press(frame < 30 ? 3 : 4, 2, 60);
            float dx = (glass.ofPeak(0, 1) - x) * 0.25f;
            glass.frame();
            x += dx;
            CHECKS.same("DX in floats, frame " + frame, glass.where(0, 2), dx);
            CHECKS.same("X in floats, frame " + frame, glass.where(0, 0), x);
        }
    }

    private static void movedIsTheGreatest() {
        Palmward glass = new Palmward();
        glass.press(3, 2, 38);
        glass.frame();
        glass.press(4, 3, 38);
        glass.frame();
        double moved = Math.abs(glass.where(0, 0) - 24) + Math.abs(glass.where(0, 1) - 16);
        CHECKS.isTrue("it went", moved > 8);
        CHECKS.same("both differences together", glass.where(0, 4), moved);
        glass.press(3, 2, 38);
        glass.frame();
        CHECKS.isTrue("it came back", Math.abs(glass.where(0, 0) - 24) < 4);
        CHECKS.same("the greatest ever", glass.where(0, 4), moved);
    }

    private static void misses() {
        Palmward glass = new Palmward();
        glass.press(1, 2, 38);
        glass.frame();
        glass.press(2, 3, 38);
        glass.frame();
        CHECKS.isTrue("it moves", glass.where(0, 2) > 0 && glass.where(0, 3) > 0);
        double x = glass.where(0, 0);
        CHECKS.same("missed once", glass.frame(), 1);
        CHECKS.same("MISSES", glass.ofContact(0, 3), 1);
        CHECKS.same("FRAMES", glass.ofContact(0, 2), 2);
        CHECKS.same("DX", glass.where(0, 2), 0);
        CHECKS.same("DY", glass.where(0, 3), 0);
        CHECKS.same("X stays", glass.where(0, 0), x);
        CHECKS.same("LIFTED", glass.frame(), 0);
        CHECKS.same("LIFTED ever", glass.many(4), 1);
        CHECKS.same("not CANCELLED", glass.many(5), 0);
        CHECKS.refusesIndex("it is gone", glass, () -> glass.ofContact(0, 0));
    }

    private static void cancelledByAPalm() {
        Palmward glass = new Palmward();
        glass.press(2, 2, 38);
        glass.frame();
        for (int x = 1; x <= 3; x++) {
            glass.press(x, 2, 160);
        }
        CHECKS.same("a PALM", glass.ofPeak(0, 4), 1);
        CHECKS.same("it would be matched with it", glass.wouldMatch(0), 0);
        CHECKS.same("so it is gone", glass.frame(), 0);
        CHECKS.same("CANCELLED", glass.many(5), 1);
        CHECKS.same("not LIFTED", glass.many(4), 0);
        CHECKS.same("no PALM begins", glass.many(3), 1);
    }

    private static void freeNamesAtOnce() {
        Palmward glass = new Palmward();
        glass.press(1, 1, 38);
        glass.press(6, 2, 38);
        glass.frame();
        glass.press(2, 2, 38);
        glass.press(6, 2, 38);
        glass.frame();
        CHECKS.isTrue("name 0 moves", glass.where(0, 4) > 8);
        glass.press(6, 2, 38);
        glass.frame();
        glass.press(6, 2, 38);
        glass.press(3, 5, 38);
        CHECKS.same("name 0 is lifted, another one begins", glass.frame(), 2);
        CHECKS.same("with the name that got free", glass.ofContact(0, 1), 37);
        CHECKS.same("FRAMES are new", glass.ofContact(0, 2), 1);
        CHECKS.same("MISSES too", glass.ofContact(0, 3), 0);
        for (int what = 2; what <= 4; what++) {
            CHECKS.same("DX, DY, MOVED too", glass.where(0, what), 0);
        }
        CHECKS.same("name 1 stays", glass.ofContact(1, 2), 4);
    }

    private static void apart() {
        Palmward glass = new Palmward();
        glass.press(1, 1, 38);
        glass.press(5, 4, 38);
        glass.frame();
        CHECKS.same("the differences together", glass.apart(0, 1), 32 + 24);
        CHECKS.same("either way", glass.apart(1, 0), 56);
        CHECKS.same("of itself", glass.apart(1, 1), 0);
        CHECKS.refusesIndex("one has none", glass, () -> glass.apart(2, 0));
        CHECKS.refusesIndex("the other has none", glass, () -> glass.apart(0, 2));
        CHECKS.refusesIndex("-1", glass, () -> glass.apart(-1, 0));
        CHECKS.refusesIndex("5", glass, () -> glass.apart(0, 5));
    }

    private static void wrongCalls() {
        Palmward glass = new Palmward();
        CHECKS.refusesIndex("no CONTACT", glass, () -> glass.where(0, 0));
        glass.press(3, 3, 38);
        glass.frame();
        CHECKS.refusesIndex("name 1", glass, () -> glass.ofContact(1, 0));
        CHECKS.refusesIndex("name -1", glass, () -> glass.ofContact(-1, 0));
        CHECKS.refusesIndex("name 5 and what 9", glass, () -> glass.ofContact(5, 9));
        CHECKS.refusesArgument("what 6", glass, () -> glass.ofContact(0, 6));
        CHECKS.refusesArgument("what -1", glass, () -> glass.ofContact(0, -1));
        CHECKS.refusesIndex("where: name 1 and what 5", glass, () -> glass.where(1, 5));
        CHECKS.refusesArgument("where: what 5", glass, () -> glass.where(0, 5));
        CHECKS.refusesArgument("where: what -1", glass, () -> glass.where(0, -1));
    }
}
