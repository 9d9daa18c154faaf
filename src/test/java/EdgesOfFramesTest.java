/** Sentence by sentence, the boundary cases of a frame's steps (1) to (4) (promises 3, 4, 8, 12, 13, 14, 19). */
public final class EdgesOfFramesTest {
    private static final Checks CHECKS = new Checks("EdgesOfFramesTest");

    public static void main(String[] args) {
        dialBefore();
        limitBefore();
        limits();
        thrownAway();
        thrownPalm();
        frameReturns();
        countsOfFrames();
        fiveNames();
        reach();
        latestPlace();
        mostPairs();
        smallestSum();
        smallerNameFirst();
        noneIsGreatest();
        fullHand();
        palmsCancel();
        framesAndMisses();
        dials();
        floats();
        differenceFirst();
        moved();
        missedTwice();
        missedNotInARow();
        begins();
        namesThatGotFree();
        areasOfContacts();
        apart();
        wouldMatch();
        CHECKS.end();
    }

    private static void dialBefore() {
        CHECKS.sentence("Promise 3", "Returns that before.");
        Palmward glass = new Palmward();
        CHECKS.same("at first", glass.dial(1), 4);
        CHECKS.same("the least", glass.dial(4), 1);
        CHECKS.same("the most", glass.dial(4), 4);
        CHECKS.refusesArgument("5", glass, () -> glass.dial(5));
        CHECKS.same("a refused one was not told", glass.dial(2), 4);
    }

    private static void limitBefore() {
        CHECKS.sentence("Promise 4", "Returns that before.");
        Palmward glass = new Palmward();
        CHECKS.same("at first", glass.limit(1), 12);
        CHECKS.same("the least", glass.limit(30), 1);
        CHECKS.same("the most", glass.limit(30), 30);
        CHECKS.refusesArgument("0", glass, () -> glass.limit(0));
        CHECKS.same("a refused one was not told", glass.limit(12), 30);
    }

    private static void limits() {
        CHECKS.sentence("Terms", "if HUM is above the LIMIT (12 at first), it is THROWN away");
        CHECKS.same("HUM 12 at first", Fingers.noiseAll(new Palmward(), -12).frame(), 0);
        CHECKS.same("HUM 13 at first", Fingers.noiseAll(new Palmward(), -13).frame(), -2);
        CHECKS.same("623 by 48 is 12", Fingers.charge(Fingers.noiseAll(new Palmward(), -13), 0, 1).frame(), 0);
        for (int limit = 1; limit <= 30; limit++) {
            CHECKS.same("HUM of the LIMIT " + limit, limited(limit, limit).frame(), 0);
            CHECKS.same("HUM above the LIMIT " + limit, limited(limit, limit + 1).frame(), -2);
        }
        CHECKS.same("HUM 0", limited(1, 0).frame(), 0);
        CHECKS.same("far above", limited(30, 40).frame(), -2);
        Palmward twice = Fingers.noiseAll(new Palmward(), -20);
        twice.limit(19);
        twice.limit(20);
        CHECKS.same("the one told latest", twice.frame(), 0);
    }

    private static Palmward limited(int limit, int hum) {
        Palmward glass = new Palmward();
        glass.limit(limit);
        return Fingers.noiseAll(glass, -hum);
    }

    private static void thrownAway() {
        CHECKS.sentence("Terms", "only (6) is done, and what was pressed and noised is gone");
        Palmward glass = new Palmward();
        glass.area(0, 7, 0, 5);
        Fingers.frame(glass, 19, 22);
        Fingers.frame(glass, 19);
        String first = Fingers.contact(glass, 0);
        String second = Fingers.contact(glass, 1);
        Fingers.noiseAll(glass, -16);
        glass.press(1, 4, 60);
        CHECKS.same("THROWN away", glass.frame(), -2);
        CHECKS.same("the matched one is as before", Fingers.contact(glass, 0), first);
        CHECKS.same("so is the missed one", Fingers.contact(glass, 1), second);
        CHECKS.same("none BEGAN", glass.many(3), 2);
        CHECKS.same("FRAMES", glass.many(0), 2);
        CHECKS.same("THROWN ones", glass.many(1), 1);
        CHECKS.same("BASE by -16", Fingers.base(glass, 47), -4);
        CHECKS.same("BASE of the TOUCHED one", Fingers.base(glass, 33), 0);
        CHECKS.same("pressed: gone", glass.ofCell(1, 4, 0), 0);
        CHECKS.same("noised: gone", glass.ofCell(7, 5, 0), 0);
        glass.wipe();
        CHECKS.same("the next is taken", glass.frame(), 0);
    }

    private static void thrownPalm() {
        CHECKS.sentence("Terms", "it is THROWN away: only (6) is done");
        Palmward glass = Fingers.touched(0);
        String before = Fingers.contact(glass, 0);
        glass.noise(0, 20);
        glass.noise(1, 20);
        for (int y = 2; y < 6; y++) {
            glass.noise(y, -13);
        }
        CHECKS.same("a PALM", glass.many(9), 1);
        CHECKS.same("THROWN away", glass.frame(), -2);
        CHECKS.same("it cancels nobody", Fingers.contact(glass, 0), before);
        CHECKS.same("CANCELLED", glass.many(5), 0);
        CHECKS.same("but its BASE follows", Fingers.base(glass, 0), 4);
    }

    private static void frameReturns() {
        CHECKS.sentence("Promise 8", "Returns how many CONTACTS there are then; -2, if it was THROWN away.");
        Palmward glass = new Palmward();
        CHECKS.same("none", glass.frame(), 0);
        CHECKS.same("five", Fingers.frame(glass, 0, 2, 4, 6, 16), 5);
        CHECKS.same("missed ones are there", glass.frame(), 5);
        Fingers.noiseAll(glass, -13);
        CHECKS.same("THROWN away", glass.frame(), -2);
        glass.heat(-4);
        CHECKS.same("lifted ones are not", glass.frame(), 0);
    }

    private static void countsOfFrames() {
        CHECKS.sentence("Promise 17", "0 FRAMES that were taken (THROWN ones not), 1 THROWN ones");
        Palmward glass = new Palmward();
        for (int time = 0; time < 3; time++) {
            glass.frame();
            Fingers.noiseAll(glass, -40);
            glass.frame();
            glass.wipe();
            CHECKS.same("taken", glass.many(0), time + 1);
            CHECKS.same("THROWN", glass.many(1), time + 1);
        }
        CHECKS.sentence("Promise 17", "3 how many BEGAN ever, 4 were LIFTED ever, 5 CANCELLED ever");
        Palmward five = Fingers.touched(0, 2, 4, 6, 16);
        five.frame();
        five.frame();
        Fingers.frame(five, 0, 2, 4, 6, 16);
        five.wipe();
        CHECKS.same("BEGAN", five.many(3), 10);
        CHECKS.same("LIFTED", five.many(4), 5);
        CHECKS.same("CANCELLED", five.many(5), 5);
        CHECKS.same("there are", five.many(2), 0);
    }

    private static void fiveNames() {
        CHECKS.sentence("Terms", "CONTACTS (5 at most, by NAMES 0 to 4)");
        int[] twelve = {0, 2, 4, 6, 16, 18, 20, 22, 32, 34, 36, 38};
        Palmward glass = Fingers.dots(new Palmward(), twelve);
        CHECKS.same("five of twelve PEAKS", glass.frame(), 5);
        CHECKS.same("BEGAN", glass.many(3), 5);
        CHECKS.same("the fifth one's LY", glass.ofContact(4, 1), 16);
        CHECKS.same("again", Fingers.frame(glass, twelve), 5);
        CHECKS.same("none more BEGAN", glass.many(3), 5);
        for (int name = 0; name < 5; name++) {
            CHECKS.same("FRAMES of " + name, glass.ofContact(name, 2), 2);
        }
    }

    private static void reach() {
        CHECKS.sentence("Terms", "are no more than 256");
        for (int cell : new int[] {19, 17, 21, 3, 35, 10, 12, 26, 28}) {
            CHECKS.same("in reach: " + cell, Fingers.dots(Fingers.touched(19), cell).wouldMatch(0), 0);
        }
        for (int cell : new int[] {16, 22, 43, 2, 4, 9, 13, 25, 29, 34, 36, 1, 5, 33, 37}) {
            CHECKS.same("out of reach: " + cell, Fingers.dots(Fingers.touched(19), cell).wouldMatch(0), -1);
        }
        CHECKS.same("15 and 0: 225", near(21, 20).wouldMatch(0), 0);
        CHECKS.same("17 and 0: 289", near(21, 22).wouldMatch(0), -1);
        CHECKS.same("16 and 1: 257", near(21, 29).wouldMatch(0), -1);
        CHECKS.same("-16 and 1: 257", near(17, 25).wouldMatch(0), -1);
        CHECKS.same("1 and 16: 257", near(35, 36).wouldMatch(0), -1);
        CHECKS.same("-1 and -16: 257", near(3, 2).wouldMatch(0), -1);
        Palmward lost = near(21, 29);
        CHECKS.same("so another one BEGINS", lost.frame(), 2);
        CHECKS.same("and the first is missed", lost.ofContact(0, 3), 1);
    }

    /** A CONTACT at (24, 16), and a PEAK at the CELL that is an eighth nearer to the other one. */
    private static Palmward near(int cell, int other) {
        return Fingers.charge(Fingers.dots(Fingers.touched(19), cell), other, 2);
    }

    private static void latestPlace() {
        CHECKS.sentence("Terms", "LX, LY is the PLACE of the PEAK with which the CONTACT was matched latest");
        Palmward glass = Fingers.touched(17);
        glass.dial(1);
        Fingers.frame(glass, 19);
        CHECKS.same("X is behind", glass.where(0, 0), 12);
        CHECKS.same("LX is not", glass.ofContact(0, 0), 24);
        glass.frame();
        CHECKS.same("LX of a missed one", glass.ofContact(0, 0), 24);
        CHECKS.same("28 from X, 16 from LX", Fingers.dots(glass, 21).wouldMatch(0), 0);
        Palmward back = Fingers.touched(17);
        back.dial(1);
        Fingers.frame(back, 19);
        CHECKS.same("12 from X, 24 from LX", Fingers.dots(back, 16).wouldMatch(0), -1);
        Palmward down = Fingers.touched(11);
        down.dial(1);
        Fingers.frame(down, 27);
        CHECKS.same("Y is behind", down.where(0, 1), 12);
        CHECKS.same("LY is not", down.ofContact(0, 1), 24);
        CHECKS.same("28 from Y, 16 from LY", Fingers.dots(down, 43).wouldMatch(0), 0);
    }

    private static void mostPairs() {
        CHECKS.sentence("Terms", "Of all ways to match (each with one at most) that with the most pairs");
        Palmward glass = Fingers.dots(Fingers.touched(18, 20), 20, 22);
        CHECKS.same("both go on by 512, rather than one by 0", glass.wouldMatch(0), 0);
        CHECKS.same("so does the other one", glass.wouldMatch(1), 1);
        Palmward chain = Fingers.dots(Fingers.touched(1, 3, 5), 3, 5, 7);
        for (int name = 0; name < 3; name++) {
            CHECKS.same("each of three goes on: " + name, chain.wouldMatch(name), name);
        }
        CHECKS.same("as the frame has it", chain.frame(), 3);
        CHECKS.same("LX", chain.ofContact(2, 0), 56);
        Palmward one = Fingers.dots(Fingers.touched(18), 17, 19);
        one.frame();
        CHECKS.same("one PEAK for one: the other BEGINS", one.many(3), 2);
    }

    private static void smallestSum() {
        CHECKS.sentence("Terms", "of several that with the smallest sum of squares");
        Palmward glass = Fingers.touched(26);
        Fingers.frame(glass, 26, 10);
        CHECKS.same("name 0 is below", glass.ofContact(0, 1), 24);
        Fingers.dots(glass, 10, 26);
        CHECKS.same("name 0 by 0, rather than the smaller PEAK by 256", glass.wouldMatch(0), 1);
        CHECKS.same("name 1 too", glass.wouldMatch(1), 0);
        Palmward nearer = Fingers.dots(Fingers.touched(19), 17);
        Fingers.charge(Fingers.dots(nearer, 21), 20, 2);
        CHECKS.same("225 rather than 256", nearer.wouldMatch(0), 1);
        Palmward nearest = Fingers.dots(Fingers.touched(17, 21), 19);
        Fingers.charge(nearest, 20, 2);
        CHECKS.same("one PEAK: not name 0 by 289", nearest.wouldMatch(0), -1);
        CHECKS.same("one PEAK: name 1 by 225", nearest.wouldMatch(1), 0);
    }

    private static void smallerNameFirst() {
        CHECKS.sentence("Terms", "that in which the CONTACT with the smallest NAME in which they differ has the smaller PEAK");
        Palmward one = Fingers.dots(Fingers.touched(19), 17, 21);
        CHECKS.same("two PEAKS by 256 each", one.wouldMatch(0), 0);
        Palmward two = Fingers.dots(Fingers.touched(18, 20), 11, 27);
        CHECKS.same("four pairs by 128 each: name 0", two.wouldMatch(0), 0);
        CHECKS.same("four pairs by 128 each: name 1", two.wouldMatch(1), 1);
        Palmward three = Fingers.touched(40);
        Fingers.frame(three, 40, 18, 20);
        Fingers.dots(three, 11, 27, 40);
        CHECKS.same("where they don't differ", three.wouldMatch(0), 2);
        CHECKS.same("where they do", three.wouldMatch(1), 0);
        CHECKS.same("and behind it", three.wouldMatch(2), 1);
    }

    private static void noneIsGreatest() {
        CHECKS.sentence("Terms", "has the smaller PEAK (none is greater than all)");
        Palmward glass = Fingers.dots(Fingers.touched(17, 21), 19);
        CHECKS.same("one PEAK by 256: name 0 has it", glass.wouldMatch(0), 0);
        CHECKS.same("name 1 has none", glass.wouldMatch(1), -1);
        CHECKS.same("both are there", glass.frame(), 2);
        CHECKS.same("MISSES of name 0", glass.ofContact(0, 3), 0);
        CHECKS.same("MISSES of name 1", glass.ofContact(1, 3), 1);
        Palmward last = Fingers.touched(0, 2, 17, 21);
        Fingers.dots(last, 0, 2, 19);
        CHECKS.same("the last PEAK before none", last.wouldMatch(2), 2);
        CHECKS.same("none", last.wouldMatch(3), -1);
    }

    private static void fullHand() {
        CHECKS.sentence("Terms", "are matched with PEAKS");
        Palmward glass = Fingers.touched(0, 2, 4, 6, 16);
        CHECKS.same("all five go on", Fingers.frame(glass, 8, 10, 12, 14, 24), 5);
        CHECKS.same("none BEGAN", glass.many(3), 5);
        for (int name = 0; name < 5; name++) {
            CHECKS.same("FRAMES of " + name, glass.ofContact(name, 2), 2);
            CHECKS.same("DY of " + name, glass.where(name, 3), 8);
        }
        for (int name = 0; name < 5; name++) {
            CHECKS.same("no PEAK for " + name, glass.wouldMatch(name), -1);
        }
    }

    private static void palmsCancel() {
        CHECKS.sentence("Terms", "NAME by NAME a matched one: if its PEAK is a PALM, it is CANCELLED: it is gone");
        Palmward finger = Fingers.region(Fingers.touched(0), 14);
        CHECKS.same("SIZE 14: it would be matched", finger.wouldMatch(0), 0);
        CHECKS.same("SIZE 14: it stays", finger.frame(), 1);
        CHECKS.same("SIZE 14: FRAMES", finger.ofContact(0, 2), 2);
        Palmward palm = Fingers.region(Fingers.touched(0), 15);
        CHECKS.same("SIZE 15: it would be matched", palm.wouldMatch(0), 0);
        CHECKS.same("SIZE 15: it is gone", palm.frame(), 0);
        CHECKS.same("CANCELLED", palm.many(5), 1);
        CHECKS.same("not LIFTED", palm.many(4), 0);
        CHECKS.refusesIndex("there is none", palm, () -> palm.ofContact(0, 0));
        Palmward two = Fingers.touched(0, 47);
        Fingers.dots(Fingers.region(two, 15), 47);
        CHECKS.same("the other one stays", two.frame(), 1);
        CHECKS.same("its FRAMES", two.ofContact(1, 2), 2);
    }

    private static void framesAndMisses() {
        CHECKS.sentence("Terms", "Otherwise FRAMES is 1 more, MISSES is 0");
        Palmward glass = Fingers.touched(19);
        CHECKS.same("at first", glass.ofContact(0, 2), 1);
        Fingers.frame(glass, 19);
        CHECKS.same("matched", glass.ofContact(0, 2), 2);
        glass.frame();
        CHECKS.same("missed: FRAMES", glass.ofContact(0, 2), 2);
        CHECKS.same("missed: MISSES", glass.ofContact(0, 3), 1);
        Fingers.frame(glass, 19);
        CHECKS.same("found: FRAMES", glass.ofContact(0, 2), 3);
        CHECKS.same("found: MISSES", glass.ofContact(0, 3), 0);
    }

    private static void dials() {
        CHECKS.sentence("Terms", "DX is (PX less X) times DIAL / 4 (DIAL 1 to 4; 4 at first");
        Palmward first = Fingers.touched(17);
        Fingers.frame(first, 19);
        CHECKS.same("at first all of it", first.where(0, 2), 16);
        for (int dial = 1; dial <= 4; dial++) {
            Palmward right = Fingers.touched(17);
            right.dial(dial);
            Fingers.frame(right, 19);
            CHECKS.same("DX to the right by " + dial, right.where(0, 2), 4 * dial);
            CHECKS.same("X to the right by " + dial, right.where(0, 0), 8 + 4 * dial);
            Palmward up = Fingers.touched(35);
            up.dial(dial);
            Fingers.frame(up, 19);
            CHECKS.same("DY up by " + dial, up.where(0, 3), -4 * dial);
            CHECKS.same("Y up by " + dial, up.where(0, 1), 32 - 4 * dial);
        }
        Palmward quarter = Fingers.charge(Fingers.dots(Fingers.touched(19), 19), 20, 2);
        quarter.dial(1);
        quarter.frame();
        CHECKS.same("a quarter is not cut", quarter.where(0, 2), 0.25);
        Palmward back = Fingers.charge(Fingers.dots(Fingers.touched(19), 19), 18, 2);
        back.dial(3);
        back.frame();
        CHECKS.same("nor three of them below 0", back.where(0, 2), -0.75);
        CHECKS.same("nor how far it MOVED", quarter.where(0, 4), 0.25);
        CHECKS.same("nor that below 0", back.where(0, 4), 0.75);
    }

    /** Steps of a quarter soon need more digits than a float has. */
    private static void floats() {
        CHECKS.sentence("Terms", "are of Java's type float (32 bits; a quarter is not cut)");
        for (int dial = 1; dial <= 3; dial += 2) {
            Palmward glass = Fingers.touched(19);
            glass.dial(dial);
            float x = glass.ofContact(0, 0);
            float firstX = x;
            float y = glass.ofContact(0, 1);
            float firstY = y;
            float moved = 0;
            double exactX = x;
            boolean isCut = false;
            for (int frame = 1; frame <= 16; frame++) {
                Fingers.dots(glass, 19 + frame / 2 % 2 + 8 * (frame / 3 % 2));
                float dx = (glass.ofPeak(0, 1) - x) * (dial * 0.25f);
                float dy = (glass.ofPeak(0, 2) - y) * (dial * 0.25f);
                exactX += (glass.ofPeak(0, 1) - exactX) * (dial * 0.25);
                x += dx;
                y += dy;
                moved = Math.max(moved, Math.abs(x - firstX) + Math.abs(y - firstY));
                glass.frame();
                CHECKS.same("X", glass.where(0, 0), x);
                CHECKS.same("Y", glass.where(0, 1), y);
                CHECKS.same("DX", glass.where(0, 2), dx);
                CHECKS.same("DY", glass.where(0, 3), dy);
                CHECKS.same("MOVED", glass.where(0, 4), moved);
                isCut |= exactX != x;
            }
            CHECKS.isTrue("it came to numbers that a float cuts", isCut);
        }
    }

    private static void differenceFirst() {
        CHECKS.sentence("Terms", "the difference first, then times that quarter), DY likewise; X is DX more, Y DY");
        Palmward glass = Fingers.touched(0);
        float x = 0;
        boolean isCut = false;
        for (int[] step : Fingers.WALK) {
            glass.dial(step[1]);
            Fingers.frame(glass, step[0]);
            float difference = 8 * step[0] - x;
            float quarter = step[1] * 0.25f;
            float dx = difference * quarter;
            isCut |= dx != (float) ((8 * step[0] - (double) x) * quarter);
            x += dx;
            CHECKS.same("DX to column " + step[0], glass.where(0, 2), dx);
            CHECKS.same("X to column " + step[0], glass.where(0, 0), x);
        }
        CHECKS.isTrue("a difference in doubles would have been another one", isCut);
    }

    private static void moved() {
        CHECKS.sentence("Terms", "MOVED is the greatest sum ever of both differences, without signs, of X and Y to those at its beginning");
        Palmward glass = Fingers.touched(19);
        CHECKS.same("at its beginning", glass.where(0, 4), 0);
        Fingers.frame(glass, 10);
        CHECKS.same("8 to the left, 8 up", glass.where(0, 4), 16);
        Fingers.frame(glass, 19);
        CHECKS.same("back there", glass.where(0, 4), 16);
        Fingers.frame(glass, 20);
        CHECKS.same("8 to the right is less", glass.where(0, 4), 16);
        Fingers.frame(glass, 29);
        CHECKS.same("16 to the right, 8 down", glass.where(0, 4), 24);
    }

    private static void missedTwice() {
        CHECKS.sentence("Terms", "MISSES is 1 more, DX and DY are 0; with 2 it is LIFTED: it is gone");
        Palmward glass = Fingers.touched(19);
        Fingers.frame(glass, 28);
        CHECKS.same("DX", glass.where(0, 2), 8);
        CHECKS.same("DY", glass.where(0, 3), 8);
        CHECKS.same("missed once", glass.frame(), 1);
        CHECKS.same("MISSES", glass.ofContact(0, 3), 1);
        CHECKS.same("DX is 0", glass.where(0, 2), 0);
        CHECKS.same("DY is 0", glass.where(0, 3), 0);
        CHECKS.same("X stays", glass.where(0, 0), 32);
        CHECKS.same("Y stays", glass.where(0, 1), 24);
        CHECKS.same("MOVED stays", glass.where(0, 4), 16);
        CHECKS.same("none LIFTED", glass.many(4), 0);
        CHECKS.same("missed twice", glass.frame(), 0);
        CHECKS.same("LIFTED", glass.many(4), 1);
        CHECKS.same("not CANCELLED", glass.many(5), 0);
        CHECKS.refusesIndex("it is gone", glass, () -> glass.where(0, 0));
        CHECKS.same("no third time", glass.frame(), 0);
        CHECKS.same("LIFTED once", glass.many(4), 1);
    }

    private static void missedNotInARow() {
        CHECKS.sentence("Terms", "one that is not matched: MISSES is 1 more");
        Palmward glass = Fingers.touched(19);
        for (int time = 0; time < 5; time++) {
            CHECKS.same("missed", glass.frame(), 1);
            CHECKS.same("MISSES", glass.ofContact(0, 3), 1);
            CHECKS.same("found", Fingers.frame(glass, 19), 1);
        }
        CHECKS.same("BEGAN", glass.many(3), 1);
        Palmward fresh = Fingers.touched(19);
        CHECKS.same("one that BEGINS is not missed at once", fresh.ofContact(0, 3), 0);
    }

    private static void begins() {
        CHECKS.sentence("Terms", "PEAK by PEAK one that is not matched and no PALM: it BEGINS");
        Palmward fingers = new Palmward();
        CHECKS.same("SIZE 14 BEGINS", Fingers.region(fingers, 14).frame(), 1);
        CHECKS.same("X is its PX", fingers.where(0, 0), fingers.ofContact(0, 0));
        Palmward palm = new Palmward();
        CHECKS.same("SIZE 15 does not", Fingers.region(palm, 15).frame(), 0);
        CHECKS.same("none BEGAN", palm.many(3), 0);
        Palmward both = new Palmward();
        Fingers.region(both, 15);
        CHECKS.same("beside a PALM", Fingers.frame(both, 33, 47), 2);
        CHECKS.same("the first is name 0", both.ofContact(0, 0), 8);
        CHECKS.same("the other one name 1", both.ofContact(1, 0), 56);
        int[] due = {56, 40, 1, 0, 0, -1};
        for (int what = 0; what <= 5; what++) {
            CHECKS.same("ofContact(1, " + what + ")", both.ofContact(1, what), due[what]);
        }
        double[] where = {56, 40, 0, 0, 0};
        for (int what = 0; what <= 4; what++) {
            CHECKS.same("where(1, " + what + ")", both.where(1, what), where[what]);
        }
    }

    private static void namesThatGotFree() {
        CHECKS.sentence("Terms", "the smallest NAME that is free (none, if none is; also one that got free in this FRAME)");
        Palmward lifted = Fingers.touched(0, 2, 4, 6, 32);
        Fingers.frame(lifted, 0, 2, 6, 32, 47);
        CHECKS.same("none is free, as name 2 is missed once", lifted.many(3), 5);
        CHECKS.same("name 2 is missed", lifted.ofContact(2, 3), 1);
        CHECKS.same("name 2 is lifted, and there anew", Fingers.frame(lifted, 0, 2, 6, 32, 47), 5);
        CHECKS.same("LIFTED", lifted.many(4), 1);
        CHECKS.same("BEGAN", lifted.many(3), 6);
        CHECKS.same("name 2 is the new one", lifted.ofContact(2, 0), 56);
        CHECKS.same("its FRAMES", lifted.ofContact(2, 2), 1);
        CHECKS.same("its MISSES", lifted.ofContact(2, 3), 0);
        Palmward cancelled = Fingers.touched(0);
        Fingers.dots(Fingers.region(cancelled, 15), 47);
        CHECKS.same("name 0 is cancelled, and there anew", cancelled.frame(), 1);
        CHECKS.same("CANCELLED", cancelled.many(5), 1);
        CHECKS.same("it is the new one", cancelled.ofContact(0, 0), 56);
        Palmward moving = Fingers.touched(18);
        Fingers.frame(moving, 9);
        CHECKS.same("it moves", moving.where(0, 2) + moving.where(0, 3) + moving.where(0, 4), -8 - 8 + 16);
        Fingers.dots(Fingers.region(moving, 16), 47);
        CHECKS.same("cancelled, and there anew", moving.frame() * 10 + moving.many(5), 11);
        CHECKS.same("with DX of its own", moving.where(0, 2), 0);
        CHECKS.same("with DY of its own", moving.where(0, 3), 0);
        CHECKS.same("with MOVED of its own", moving.where(0, 4), 0);
        Palmward gap = Fingers.touched(0, 20, 40);
        Fingers.frame(gap, 0, 40);
        Fingers.frame(gap, 0, 40);
        Fingers.frame(gap, 0, 23, 40, 47);
        CHECKS.same("the gap first", gap.ofContact(1, 1), 16);
        CHECKS.same("then the next", gap.ofContact(3, 1), 40);
    }

    private static void areasOfContacts() {
        CHECKS.sentence("Terms", "its AREA is the one told latest that has its CELL (NONE)");
        Palmward none = Fingers.touched(19);
        CHECKS.same("without any AREA", none.ofContact(0, 5), -1);
        none.area(0, 7, 0, 5);
        Fingers.frame(none, 19);
        CHECKS.same("told later", none.ofContact(0, 5), -1);
        Palmward glass = new Palmward();
        glass.area(0, 7, 0, 2);
        glass.area(3, 7, 2, 5);
        glass.area(3, 3, 2, 2);
        glass.area(0, 0, 5, 5);
        Fingers.frame(glass, 17, 19, 22, 34, 40);
        int[] due = {0, 2, 1, -1, 3};
        for (int name = 0; name < 5; name++) {
            CHECKS.same("AREA of " + name, glass.ofContact(name, 5), due[name]);
        }
        Palmward moving = new Palmward();
        moving.area(0, 3, 0, 5);
        moving.area(4, 7, 0, 5);
        Fingers.frame(moving, 19);
        Fingers.frame(moving, 20);
        CHECKS.same("it stays where it began", moving.ofContact(0, 5), 0);
        Palmward slant = new Palmward();
        slant.area(3, 3, 0, 5);
        slant.area(4, 7, 0, 5);
        slant.area(0, 2, 0, 5);
        Fingers.charge(Fingers.dots(slant, 19), 18, 19);
        slant.frame();
        CHECKS.same("its PLACE is left of its CELL", slant.ofContact(0, 0), 20);
        CHECKS.same("its CELL counts", slant.ofContact(0, 5), 0);
    }

    private static void apart() {
        CHECKS.sentence("Promise 14", "the difference of X and that of Y, without signs, together (reckoned in floats, made double then)");
        Palmward glass = Fingers.touched(0, 7, 26, 40, 47);
        CHECKS.same("of itself", glass.apart(2, 2), 0);
        CHECKS.same("in a row", glass.apart(0, 1), 56);
        CHECKS.same("in a column", glass.apart(3, 0), 40);
        CHECKS.same("from corner to corner", glass.apart(0, 4), 96);
        CHECKS.same("and back", glass.apart(4, 0), 96);
        CHECKS.same("from the other corners", glass.apart(1, 3), 96);
        Palmward near = Fingers.touched(16, 20);
        near.dial(1);
        Fingers.charge(Fingers.dots(near, 16, 20), 28, 2);
        near.frame();
        CHECKS.same("a quarter of Y", near.apart(0, 1), 32.25);
        CHECKS.same("and back", near.apart(1, 0), 32.25);
        Palmward slow = Fingers.touched(0, 47);
        slow.dial(1);
        for (int frame = 0; frame < 6; frame++) {
            Fingers.frame(slow, frame % 2 == 0 ? 1 : 2, 47);
        }
        float due = Math.abs((float) slow.where(0, 0) - 56f) + 40f;
        CHECKS.same("by X, not by LX", slow.apart(0, 1), due);
        CHECKS.isTrue("X is behind LX", slow.where(0, 0) < slow.ofContact(0, 0));
    }

    private static void wouldMatch() {
        CHECKS.sentence("Promise 19", "NONE without one (also if it would be THROWN away)");
        Palmward glass = Fingers.touched(19);
        CHECKS.same("without a PEAK", glass.wouldMatch(0), -1);
        Fingers.dots(glass, 3, 19);
        CHECKS.same("its number", glass.wouldMatch(0), 1);
        glass.limit(2);
        glass.noise(5, -12);
        CHECKS.same("HUM", glass.many(7), 2);
        CHECKS.same("HUM of the LIMIT", glass.wouldMatch(0), 1);
        glass.limit(1);
        CHECKS.same("HUM above the LIMIT", glass.wouldMatch(0), -1);
        glass.limit(30);
        CHECKS.same("by another LIMIT", glass.wouldMatch(0), 1);
        glass.heat(30);
        CHECKS.same("all in one PALM", glass.many(9), glass.many(8));
        CHECKS.isTrue("that matches, too", glass.wouldMatch(0) >= 0);
    }
}
