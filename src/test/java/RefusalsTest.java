import java.util.ArrayList;
import java.util.HashSet;
import java.util.List;
import java.util.Set;

/**
 * Each row "Throws" of the document: what it names is refused by that exception, what is just beside it is not, and a
 * refused call changes nothing: a twin that was never asked goes on alike.
 */
public final class RefusalsTest {
    private static final Checks CHECKS = new Checks("RefusalsTest");
    private static final String ARGUMENT = "IllegalArgumentException";
    private static final String INDEX = "IndexOutOfBoundsException";
    private static final String STATE = "IllegalStateException";
    private static final int LEAST = Integer.MIN_VALUE;
    private static final int MOST = Integer.MAX_VALUE;
    private static final int NEW = 0;
    private static final int RICH = 1;
    private static final int FULL = 2;

    /** A call on a glass that it is given. */
    private interface GlassCall {
        Object on(Palmward glass);
    }

    private static final Set<String> TESTED = new HashSet<>();
    private static String due = "";

    public static void main(String[] args) {
        areas();
        areasWhenAllAreTold();
        dialsAndLimits();
        heats();
        presses();
        noises();
        cells();
        peaks();
        contacts();
        wheres();
        aparts();
        rows();
        ofAreas();
        manys();
        guesses();
        wouldMatches();
        keeps();
        firstNamedFirst();
        everyRowIsTested();
        CHECKS.end();
    }

    private static void row(String promise, String exception, String condition) {
        CHECKS.sentence(promise, "Throws `" + exception + "` if " + condition);
        TESTED.add(promise + ": Throws `" + exception + "` if " + condition);
        due = exception;
    }

    /** RICH: names 0 and 2 of 0 to 2, two AREAS, something waits; FULL: five names, four AREAS, something waits. */
    private static Palmward glass(int kind) {
        Palmward glass = new Palmward();
        if (kind == RICH) {
            glass.area(0, 3, 0, 5);
            glass.area(2, 7, 1, 4);
            Fingers.frame(glass, 10, 13, 35);
            Fingers.frame(glass, 11, 34);
            Fingers.frame(glass, 11, 34);
            glass.dial(3);
            glass.heat(-2);
            glass.press(4, 1, 47);
            glass.press(1, 4, 33);
        } else if (kind == FULL) {
            for (int area = 0; area < 4; area++) {
                glass.area(area, 7, 0, 5);
            }
            Fingers.frame(glass, 0, 3, 6, 17, 21);
            glass.limit(9);
            glass.noise(5, -4);
            glass.press(1, 2, 60);
        }
        return glass;
    }

    /** What a glass answers from here on, by all that is kept in it. */
    private static String after(Palmward glass) {
        StringBuilder text = new StringBuilder();
        for (int frame = 0; frame < 4; frame++) {
            text.append(glass.ofCell(4, 1, 0)).append(' ').append(glass.digest()).append(' ');
            text.append(glass.frame()).append(' ').append(glass.digest()).append(' ');
            glass.press(1 + frame, 2, 90);
            glass.press(6, 4 - frame, 70);
        }
        text.append(glass.dial(4)).append(' ').append(glass.limit(12)).append(' ').append(glass.heat(0)).append(' ');
        text.append(Checks.textOf(() -> glass.area(0, 7, 0, 5)));
        return text.toString();
    }

    private static void refused(String what, GlassCall call) {
        for (int kind = NEW; kind <= FULL; kind++) {
            refused(what, kind, call);
        }
    }

    private static void refused(String what, int kind, GlassCall call) {
        Palmward glass = glass(kind);
        for (int time = 0; time < 2; time++) {
            CHECKS.same(what + " of glass " + kind, Checks.textOf(() -> call.on(glass)), "throws." + due);
        }
        CHECKS.same(what + " changes nothing of glass " + kind, after(glass), after(glass(kind)));
    }

    private static void taken(String what, int kind, GlassCall call) {
        String text = Checks.textOf(() -> call.on(glass(kind)));
        CHECKS.isTrue(what + " of glass " + kind + " is no reason: " + text, !text.startsWith("throws."));
    }

    private static void areas() {
        row("Promise 2", ARGUMENT,
            "left is below 0, right below left or above 7, top below 0, or bottom below top or above 5");
        int[][] wrong = {{-1, 7, 0, 5}, {LEAST, 7, 0, 5}, {4, 3, 0, 5}, {7, 0, 0, 5}, {0, -1, 0, 5}, {0, LEAST, 0, 5},
            {0, 8, 0, 5}, {8, 8, 0, 5}, {0, MOST, 0, 5}, {MOST, MOST, 0, 5}, {0, 7, -1, 5}, {0, 7, LEAST, 5},
            {0, 7, 3, 2}, {0, 7, 5, 0}, {0, 7, 0, -1}, {0, 7, 0, LEAST}, {0, 7, 0, 6}, {0, 7, 6, 6}, {0, 7, 0, MOST},
            {0, 7, MOST, MOST}, {-1, 8, -1, 6}};
        for (int[] one : wrong) {
            refused("area(" + one[0] + ", " + one[1] + ", " + one[2] + ", " + one[3] + ")",
                glass -> glass.area(one[0], one[1], one[2], one[3]));
        }
        int[][] right = {{0, 7, 0, 5}, {0, 0, 0, 0}, {7, 7, 5, 5}, {3, 3, 2, 2}, {0, 7, 5, 5}, {7, 7, 0, 5}};
        for (int[] one : right) {
            taken("area(" + one[0] + ", " + one[1] + ", " + one[2] + ", " + one[3] + ")", RICH,
                glass -> glass.area(one[0], one[1], one[2], one[3]));
        }
    }

    private static void areasWhenAllAreTold() {
        row("Promise 2", STATE, "there are 4");
        refused("a fifth one", FULL, glass -> glass.area(0, 7, 0, 5));
        refused("a smaller one", FULL, glass -> glass.area(7, 7, 5, 5));
        taken("the first one", NEW, glass -> glass.area(0, 7, 0, 5));
        taken("the fourth one", RICH, glass -> glass.area(0, 7, 0, 5) + glass.area(0, 7, 0, 5));
    }

    private static void dialsAndLimits() {
        row("Promise 3", ARGUMENT, "dial is not 1 to 4");
        for (int dial : new int[] {0, 5, -1, LEAST, MOST}) {
            refused("dial(" + dial + ")", glass -> glass.dial(dial));
        }
        taken("dial(1)", NEW, glass -> glass.dial(1));
        taken("dial(4)", NEW, glass -> glass.dial(4));
        row("Promise 4", ARGUMENT, "limit is not 1 to 30");
        for (int limit : new int[] {0, 31, -1, LEAST, MOST}) {
            refused("limit(" + limit + ")", glass -> glass.limit(limit));
        }
        taken("limit(1)", NEW, glass -> glass.limit(1));
        taken("limit(30)", NEW, glass -> glass.limit(30));
    }

    private static void heats() {
        row("Promise 5", ARGUMENT, "heat is not -30 to 30");
        for (int heat : new int[] {-31, 31, LEAST, MOST}) {
            refused("heat(" + heat + ")", glass -> glass.heat(heat));
        }
        taken("heat(-30)", NEW, glass -> glass.heat(-30));
        taken("heat(30)", NEW, glass -> glass.heat(30));
    }

    private static void presses() {
        row("Promise 6", INDEX, "x is not 0 to 7, or y not 0 to 5");
        int[][] wrong = {{-1, 0}, {8, 0}, {LEAST, 0}, {MOST, 0}, {0, -1}, {0, 6}, {0, LEAST}, {0, MOST}, {8, 6}};
        for (int[] at : wrong) {
            refused("press(" + at[0] + ", " + at[1] + ", 9)", glass -> glass.press(at[0], at[1], 9));
        }
        taken("press(0, 0, 1)", RICH, glass -> glass.press(0, 0, 1));
        taken("press(7, 5, 200)", RICH, glass -> glass.press(7, 5, 200));
        row("Promise 6", ARGUMENT, "strength is not 1 to 200");
        for (int strength : new int[] {0, 201, -1, LEAST, MOST}) {
            refused("press(3, 3, " + strength + ")", glass -> glass.press(3, 3, strength));
        }
    }

    private static void noises() {
        row("Promise 7", INDEX, "y is not 0 to 5");
        for (int y : new int[] {-1, 6, LEAST, MOST}) {
            refused("noise(" + y + ", 1)", glass -> glass.noise(y, 1));
        }
        taken("noise(0, -40)", RICH, glass -> glass.noise(0, -40));
        taken("noise(5, 40)", RICH, glass -> glass.noise(5, 40));
        row("Promise 7", ARGUMENT, "much is not -40 to 40");
        for (int much : new int[] {-41, 41, LEAST, MOST}) {
            refused("noise(2, " + much + ")", glass -> glass.noise(2, much));
        }
    }

    private static void cells() {
        row("Promise 10", INDEX, "x is not 0 to 7, or y not 0 to 5");
        int[][] wrong = {{-1, 0}, {8, 0}, {LEAST, 0}, {MOST, 0}, {0, -1}, {0, 6}, {0, LEAST}, {0, MOST}, {-1, -1}};
        for (int[] at : wrong) {
            refused("ofCell(" + at[0] + ", " + at[1] + ", 0)", glass -> glass.ofCell(at[0], at[1], 0));
        }
        taken("ofCell(0, 0, 0)", RICH, glass -> glass.ofCell(0, 0, 0));
        taken("ofCell(7, 5, 4)", RICH, glass -> glass.ofCell(7, 5, 4));
        row("Promise 10", ARGUMENT, "what is not 0 to 4");
        for (int what : new int[] {-1, 5, LEAST, MOST}) {
            refused("ofCell(7, 5, " + what + ")", glass -> glass.ofCell(7, 5, what));
        }
    }

    private static void peaks() {
        row("Promise 11", INDEX, "there is no such PEAK");
        refused("ofPeak(0, 0)", NEW, glass -> glass.ofPeak(0, 0));
        for (int peak : new int[] {-1, 2, 12, 47, 48, LEAST, MOST}) {
            refused("ofPeak(" + peak + ", 0)", glass -> glass.ofPeak(peak, 0));
        }
        CHECKS.same("PEAKS", glass(RICH).many(8), 2);
        taken("ofPeak(0, 0)", RICH, glass -> glass.ofPeak(0, 0));
        taken("ofPeak(1, 4)", RICH, glass -> glass.ofPeak(1, 4));
        row("Promise 11", ARGUMENT, "what is not 0 to 4");
        for (int what : new int[] {-1, 5, LEAST, MOST}) {
            refused("ofPeak(1, " + what + ")", RICH, glass -> glass.ofPeak(1, what));
            refused("ofPeak(0, " + what + ")", FULL, glass -> glass.ofPeak(0, what));
        }
    }

    /** A name without a CONTACT: by any number, by a gap, and by each way to be gone. */
    private static void names(String call, String last, GlassNameCall asked) {
        for (int name : new int[] {-1, 5, LEAST, MOST}) {
            refused(call + name + last, glass -> asked.on(glass, name));
        }
        refused(call + 0 + last, NEW, glass -> asked.on(glass, 0));
        refused(call + "1, a gap" + last, RICH, glass -> asked.on(glass, 1));
        refused(call + "3, behind all" + last, RICH, glass -> asked.on(glass, 3));
        for (int name : new int[] {0, 2}) {
            taken(call + name + last, RICH, glass -> asked.on(glass, name));
        }
        taken(call + 4 + last, FULL, glass -> asked.on(glass, 4));
        Palmward lifted = Fingers.touched(19);
        lifted.frame();
        CHECKS.isTrue(call + "a missed one", !Checks.textOf(() -> asked.on(lifted, 0)).startsWith("throws."));
        lifted.frame();
        CHECKS.same(call + "a lifted one", Checks.textOf(() -> asked.on(lifted, 0)), "throws." + due);
        Palmward wiped = Fingers.touched(19);
        wiped.wipe();
        CHECKS.same(call + "a wiped one", Checks.textOf(() -> asked.on(wiped, 0)), "throws." + due);
        Palmward cancelled = Fingers.region(Fingers.touched(0), 15);
        cancelled.frame();
        CHECKS.same(call + "a cancelled one", Checks.textOf(() -> asked.on(cancelled, 0)), "throws." + due);
    }

    /** A call on a glass and one of its NAMES. */
    private interface GlassNameCall {
        Object on(Palmward glass, int name);
    }

    private static void contacts() {
        row("Promise 12", INDEX, "there is no CONTACT of that NAME");
        names("ofContact(", ", 0)", (glass, name) -> glass.ofContact(name, 0));
        row("Promise 12", ARGUMENT, "what is not 0 to 5");
        for (int what : new int[] {-1, 6, LEAST, MOST}) {
            refused("ofContact(0, " + what + ")", RICH, glass -> glass.ofContact(0, what));
            refused("ofContact(4, " + what + ")", FULL, glass -> glass.ofContact(4, what));
        }
        taken("ofContact(0, 5)", RICH, glass -> glass.ofContact(0, 5));
    }

    private static void wheres() {
        row("Promise 13", INDEX, "there is no CONTACT of that NAME");
        names("where(", ", 0)", (glass, name) -> glass.where(name, 0));
        row("Promise 13", ARGUMENT, "what is not 0 to 4");
        for (int what : new int[] {-1, 5, LEAST, MOST}) {
            refused("where(0, " + what + ")", RICH, glass -> glass.where(0, what));
            refused("where(4, " + what + ")", FULL, glass -> glass.where(4, what));
        }
        taken("where(0, 4)", RICH, glass -> glass.where(0, 4));
    }

    private static void aparts() {
        row("Promise 14", INDEX, "one of both NAMES has no CONTACT");
        names("apart(itself: ", ")", (glass, name) -> glass.apart(name, name));
        for (int name : new int[] {-1, 1, 3, 4, 5, LEAST, MOST}) {
            refused("apart(" + name + ", 0)", RICH, glass -> glass.apart(name, 0));
            refused("apart(0, " + name + ")", RICH, glass -> glass.apart(0, name));
            refused("apart(" + name + ", 2)", RICH, glass -> glass.apart(name, 2));
            refused("apart(2, " + name + ")", RICH, glass -> glass.apart(2, name));
        }
        taken("apart(0, 2)", RICH, glass -> glass.apart(0, 2));
        taken("apart(4, 0)", FULL, glass -> glass.apart(4, 0));
    }

    private static void rows() {
        row("Promise 15", INDEX, "y is not 0 to 5");
        for (int y : new int[] {-1, 6, LEAST, MOST}) {
            refused("ofRow(" + y + ", 0)", glass -> glass.ofRow(y, 0));
        }
        taken("ofRow(0, 0)", RICH, glass -> glass.ofRow(0, 0));
        taken("ofRow(5, 2)", RICH, glass -> glass.ofRow(5, 2));
        row("Promise 15", ARGUMENT, "what is not 0 to 2");
        for (int what : new int[] {-1, 3, LEAST, MOST}) {
            refused("ofRow(5, " + what + ")", glass -> glass.ofRow(5, what));
        }
    }

    private static void ofAreas() {
        row("Promise 16", INDEX, "there is no such AREA");
        for (int area : new int[] {-1, 4, LEAST, MOST}) {
            refused("ofArea(" + area + ", 0)", glass -> glass.ofArea(area, 0));
        }
        refused("ofArea(0, 0)", NEW, glass -> glass.ofArea(0, 0));
        refused("ofArea(2, 0)", RICH, glass -> glass.ofArea(2, 0));
        taken("ofArea(1, 0)", RICH, glass -> glass.ofArea(1, 0));
        taken("ofArea(3, 4)", FULL, glass -> glass.ofArea(3, 4));
        row("Promise 16", ARGUMENT, "what is not 0 to 4");
        for (int what : new int[] {-1, 5, LEAST, MOST}) {
            refused("ofArea(1, " + what + ")", RICH, glass -> glass.ofArea(1, what));
            refused("ofArea(3, " + what + ")", FULL, glass -> glass.ofArea(3, what));
        }
    }

    private static void manys() {
        row("Promise 17", ARGUMENT, "what is not 0 to 9");
        for (int what : new int[] {-1, 10, LEAST, MOST}) {
            refused("many(" + what + ")", glass -> glass.many(what));
        }
        taken("many(0)", NEW, glass -> glass.many(0));
        taken("many(9)", NEW, glass -> glass.many(9));
    }

    private static void guesses() {
        row("Promise 18", INDEX, "there is no CONTACT of that NAME");
        names("guess(", ", 0, false)", (glass, name) -> glass.guess(name, 0, false));
        names("guess(", ", 9, true)", (glass, name) -> glass.guess(name, 9, true));
        row("Promise 18", ARGUMENT, "ahead is not 0 to 9");
        for (int ahead : new int[] {-1, 10, LEAST, MOST}) {
            refused("guess(0, " + ahead + ", false)", RICH, glass -> glass.guess(0, ahead, false));
            refused("guess(4, " + ahead + ", true)", FULL, glass -> glass.guess(4, ahead, true));
        }
    }

    private static void wouldMatches() {
        row("Promise 19", INDEX, "there is no CONTACT of that NAME");
        names("wouldMatch(", ")", (glass, name) -> glass.wouldMatch(name));
    }

    private static void keeps() {
        row("Promise 21", INDEX, "there is no CONTACT of that NAME");
        names("keepBy(", ", 1)", (glass, name) -> glass.keepBy(name, 1));
        names("keepBy(", ", 200)", (glass, name) -> glass.keepBy(name, 200));
        row("Promise 21", ARGUMENT, "strength is not 1 to 200");
        for (int strength : new int[] {0, 201, -1, LEAST, MOST}) {
            refused("keepBy(0, " + strength + ")", RICH, glass -> glass.keepBy(0, strength));
            refused("keepBy(4, " + strength + ")", FULL, glass -> glass.keepBy(4, strength));
        }
    }

    private static void firstNamedFirst() {
        CHECKS.sentence("Terms", "If several exceptions apply, the one that is named first is thrown.");
        due = ARGUMENT;
        refused("area, wrong and a fifth", FULL, glass -> glass.area(0, 8, 0, 5));
        refused("area, wrong at its end and a fifth", FULL, glass -> glass.area(0, 7, 0, 6));
        due = INDEX;
        for (int wrong : new int[] {LEAST, -1, 201, MOST}) {
            refused("press, x and strength", glass -> glass.press(8, 0, wrong));
            refused("press, y and strength", glass -> glass.press(0, 6, wrong));
            refused("noise, y and much", glass -> glass.noise(6, wrong < 0 ? -41 : 41));
            refused("ofCell, x and what", glass -> glass.ofCell(-1, 0, wrong));
            refused("ofCell, y and what", glass -> glass.ofCell(0, -1, wrong));
            refused("ofPeak, peak and what", glass -> glass.ofPeak(12, wrong));
            refused("ofContact, name and what", glass -> glass.ofContact(5, wrong));
            refused("ofContact, a gap and what", RICH, glass -> glass.ofContact(1, wrong));
            refused("where, name and what", glass -> glass.where(-1, wrong));
            refused("where, a gap and what", RICH, glass -> glass.where(1, wrong));
            refused("ofRow, y and what", glass -> glass.ofRow(6, wrong));
            refused("ofArea, area and what", glass -> glass.ofArea(4, wrong));
            refused("guess, name and ahead", glass -> glass.guess(5, wrong, true));
            refused("guess, a gap and ahead", RICH, glass -> glass.guess(1, wrong, false));
            refused("keepBy, name and strength", glass -> glass.keepBy(-1, wrong));
            refused("keepBy, a gap and strength", RICH, glass -> glass.keepBy(1, wrong));
        }
    }

    private static void everyRowIsTested() {
        CHECKS.sentence("Terms", "A method that throws an exception changes nothing.");
        List<String> untested = new ArrayList<>(Document.throwsRows());
        CHECKS.isTrue("there are such rows", !untested.isEmpty());
        untested.removeAll(TESTED);
        CHECKS.same("rows without a test", untested.toString(), "[]");
    }
}
