/** Sentence by sentence, the boundary cases of taps, claims and areas: steps (2), (3), (5), promises 2, 9, 12, 16. */
public final class EdgesOfClaimsTest {
    private static final Checks CHECKS = new Checks("EdgesOfClaimsTest");

    public static void main(String[] args) {
        taps();
        noTaps();
        pinchesApart();
        pinchesNearer();
        pinchOfBothWays();
        pinchInFloats();
        asTheLaterOneBegan();
        asItBeganAnew();
        bothClaimNothing();
        pairByPair();
        bothWereMatched();
        pans();
        panOfBothWays();
        holds();
        panAheadOfHold();
        numbersOfClaims();
        countedOnce();
        takenBack();
        pinchTakenBack();
        nothingToTakeBack();
        wiped();
        areas();
        areaNumbers();
        contactsOfAnArea();
        CHECKS.end();
    }

    private static Palmward halves() {
        Palmward glass = new Palmward();
        glass.area(0, 3, 0, 5);
        glass.area(4, 7, 0, 5);
        return glass;
    }

    private static Palmward halves(int... cells) {
        Palmward glass = halves();
        Fingers.frame(glass, cells);
        return glass;
    }

    /** The dots, and what moves the PEAK at the first of them by an eighth towards another CELL. */
    private static void frameWith(Palmward glass, int other, int... cells) {
        Fingers.charge(Fingers.dots(glass, cells), other, 2);
        glass.frame();
    }

    private static String claims(Palmward glass) {
        StringBuilder claims = new StringBuilder();
        for (int name = 0; name < glass.many(2); name++) {
            claims.append(name == 0 ? "" : " ").append(glass.ofContact(name, 4));
        }
        return claims.toString();
    }

    private static String counts(Palmward glass, int area) {
        StringBuilder counts = new StringBuilder();
        for (int what = 0; what <= 4; what++) {
            counts.append(what == 0 ? "" : " ").append(glass.ofArea(area, what));
        }
        return counts.toString();
    }

    private static void taps() {
        CHECKS.sentence("Terms", "if it claims nothing, and FRAMES is 4 or less, that is a TAP of its AREA");
        for (int frames = 1; frames <= 7; frames++) {
            Palmward glass = halves();
            for (int frame = 0; frame < frames; frame++) {
                Fingers.frame(glass, 19);
            }
            glass.frame();
            CHECKS.same("missed once behind " + frames, counts(glass, 0), "0 0 0 0 1");
            glass.frame();
            CHECKS.same("lifted behind " + frames, counts(glass, 0), frames <= 4 ? "1 0 0 0 0" : "0 0 0 0 0");
            CHECKS.same("of the other AREA", counts(glass, 1), "0 0 0 0 0");
        }
        Palmward missed = halves(19);
        for (int frame = 0; frame < 3; frame++) {
            missed.frame();
            Fingers.frame(missed, 19);
        }
        missed.frame();
        missed.frame();
        CHECKS.same("frames without it are none of its FRAMES", counts(missed, 0), "1 0 0 0 0");
    }

    private static void noTaps() {
        CHECKS.sentence("Terms", "with 2 it is LIFTED: it is gone; if it claims nothing");
        Palmward pan = halves(17);
        Fingers.frame(pan, 19);
        CHECKS.same("it claims", claims(pan), "2");
        pan.frame();
        pan.frame();
        CHECKS.same("2 FRAMES, but a PAN, which stays", counts(pan, 0), "0 0 1 0 0");
        Palmward palm = halves(0);
        Fingers.region(palm, 15).frame();
        CHECKS.same("CANCELLED", palm.many(5), 1);
        CHECKS.same("is no TAP", counts(palm, 0), "0 0 0 0 0");
        Palmward wiped = halves(0);
        wiped.wipe();
        CHECKS.same("wiped is none", counts(wiped, 0), "0 0 0 0 0");
        Palmward outside = new Palmward();
        outside.area(0, 3, 0, 5);
        Fingers.frame(outside, 20);
        outside.frame();
        outside.frame();
        CHECKS.same("outside all AREAS it is counted nowhere", counts(outside, 0), "0 0 0 0 0");
    }

    private static void pinchesApart() {
        CHECKS.sentence("Terms", "differs by more than 16 from that which it was as the later one of both BEGAN, both claim a PINCH");
        Palmward glass = halves(17, 21);
        Fingers.frame(glass, 16, 22);
        CHECKS.same("16 more", glass.apart(0, 1), 32 + 16);
        CHECKS.same("is none", claims(glass), "0 0");
        CHECKS.same("left", counts(glass, 0), "0 0 0 0 1");
        frameWith(glass, 23, 22, 16);
        CHECKS.same("17 more", glass.apart(0, 1), 32 + 17);
        CHECKS.same("is one", claims(glass), "1 1");
        CHECKS.same("one left", counts(glass, 0), "0 1 0 0 1");
        CHECKS.same("one right", counts(glass, 1), "0 1 0 0 1");
    }

    private static void pinchesNearer() {
        CHECKS.sentence("Terms", "differs by more than 16");
        Palmward glass = halves(17, 22);
        Fingers.frame(glass, 18, 21);
        CHECKS.same("16 less", glass.apart(0, 1), 40 - 16);
        CHECKS.same("is none", claims(glass), "0 0");
        frameWith(glass, 20, 21, 18);
        CHECKS.same("17 less", glass.apart(0, 1), 40 - 17);
        CHECKS.same("is one", claims(glass), "1 1");
    }

    private static void pinchOfBothWays() {
        CHECKS.sentence("Terms", "the difference of X and that of Y, without signs, together; all of it in floats");
        Palmward glass = halves(9, 29);
        CHECKS.same("32 and 16", glass.apart(0, 1), 48);
        Fingers.frame(glass, 1, 30);
        CHECKS.same("40 and 24", glass.apart(0, 1), 64);
        CHECKS.same("16 more is none", claims(glass), "0 0");
        frameWith(glass, 38, 30, 1);
        CHECKS.same("40 and 25", glass.apart(0, 1), 65);
        CHECKS.same("17 more is one", claims(glass), "1 1");
        Palmward turned = halves(17, 21);
        Fingers.frame(turned, 18, 12);
        Fingers.frame(turned, 19, 4);
        CHECKS.same("from 32 and 0 to 8 and 16", turned.apart(0, 1), 24);
        CHECKS.isTrue("that is none, as far as they went", turned.ofContact(0, 4) != 1 && turned.ofContact(1, 4) != 1);
    }

    private static void pinchInFloats() {
        CHECKS.sentence("Terms", "the distance of both");
        Palmward glass = halves(17, 21);
        Fingers.frame(glass, 16, 22);
        glass.dial(1);
        frameWith(glass, 23, 22, 16);
        CHECKS.same("a quarter more than 16", glass.apart(0, 1), 32 + 16.25);
        CHECKS.same("is one", claims(glass), "1 1");
        Palmward slow = halves(17, 21);
        slow.dial(1);
        Fingers.frame(slow, 16, 23);
        CHECKS.same("by LX 24 more, by X 6", slow.apart(0, 1), 38);
        CHECKS.same("X counts", claims(slow), "0 0");
    }

    private static void asTheLaterOneBegan() {
        CHECKS.sentence("Terms", "as the later one of both BEGAN");
        Palmward more = halves(17);
        Fingers.frame(more, 18, 22);
        CHECKS.same("as the later one BEGAN", more.apart(0, 1), 32);
        frameWith(more, 23, 22, 16);
        CHECKS.same("17 more than then", more.apart(0, 1), 49);
        CHECKS.same("though 9 more than from where the first BEGAN", claims(more), "1 1");
        Palmward less = halves(17);
        Fingers.frame(less, 18, 22);
        Fingers.frame(less, 19, 21);
        CHECKS.same("16 less than then", less.apart(0, 1), 16);
        CHECKS.same("though 24 less than from where the first BEGAN", claims(less), "2 0");
        Palmward slow = halves(17);
        slow.dial(1);
        Fingers.frame(slow, 19, 22);
        CHECKS.same("by X, which is behind LX", slow.apart(0, 1), 36);
        slow.dial(4);
        frameWith(slow, 23, 22, 17);
        CHECKS.same("5 more by X, 17 by LX", slow.apart(0, 1), 41);
        CHECKS.same("is none", claims(slow), "0 0");
    }

    /** A NAME that gets free and is used again has another beginning. */
    private static void asItBeganAnew() {
        CHECKS.sentence("Terms", "it was as the later one of both BEGAN");
        Palmward glass = halves(16, 23);
        CHECKS.same("far apart", glass.apart(0, 1), 56);
        Fingers.frame(glass, 23);
        Fingers.frame(glass, 23);
        CHECKS.same("name 0 is lifted", glass.many(4), 1);
        Fingers.frame(glass, 20, 23);
        Fingers.frame(glass, 20, 23);
        CHECKS.same("name 0 is another one", glass.apart(0, 1), 24);
        CHECKS.same("and did not move", claims(glass), "0 0");
        Palmward other = halves(16, 23);
        Fingers.frame(other, 16);
        Fingers.frame(other, 16);
        Fingers.frame(other, 16, 19);
        Fingers.frame(other, 16, 19);
        CHECKS.same("so it is with name 1", claims(other), "0 0");
    }

    private static void bothClaimNothing() {
        CHECKS.sentence("Terms", "pair by pair of CONTACTS (by the smaller NAME, then the other one) that both claim nothing");
        Palmward glass = halves(19, 22);
        Fingers.frame(glass, 17, 22);
        CHECKS.same("16 more: name 0 pans", claims(glass), "2 0");
        frameWith(glass, 23, 22, 17);
        CHECKS.same("17 more", glass.apart(0, 1), 24 + 17);
        CHECKS.same("name 0 claims already", claims(glass), "2 0");
        CHECKS.same("left", counts(glass, 0), "0 0 1 0 1");
        CHECKS.same("right", counts(glass, 1), "0 0 0 0 1");
    }

    private static void pairByPair() {
        CHECKS.sentence("Terms", "pair by pair of CONTACTS (by the smaller NAME, then the other one)");
        Palmward all = halves(2, 4, 35);
        Fingers.frame(all, 1, 5, 35);
        CHECKS.same("16, 8 and 8 more", claims(all), "0 0 0");
        Fingers.frame(all, 0, 6, 43);
        CHECKS.same("name 0 and name 1: 32 more", all.apart(0, 1), 16 + 32);
        CHECKS.same("name 0 and name 2: 24 more", all.apart(0, 2), 40 + 24);
        CHECKS.same("name 1 and name 2: 24 more", all.apart(1, 2), 40 + 24);
        CHECKS.same("the first pair alone", claims(all), "1 1 0");
        CHECKS.same("name 0 and name 2 are left", counts(all, 0), "0 1 0 0 2");
        Fingers.frame(all, 0, 6, 43);
        CHECKS.same("nor a frame later", claims(all), "1 1 0");
        Palmward two = halves(1, 17, 20);
        Fingers.frame(two, 0, 16, 21);
        CHECKS.same("0, 16 and 16 more", claims(two), "0 0 0");
        Fingers.frame(two, 0, 16, 22);
        CHECKS.same("name 0 and name 1: none more", two.apart(0, 1), 16);
        CHECKS.same("name 1 and name 2: 24 more", two.apart(1, 2), 24 + 24);
        CHECKS.same("name 0 goes ahead of name 1", claims(two), "1 0 1");
    }

    private static void bothWereMatched() {
        CHECKS.sentence("Terms", "and were matched in this FRAME");
        Palmward glass = halves(18, 20);
        Fingers.frame(glass, 17, 21);
        CHECKS.same("16 more is none", claims(glass), "0 0");
        frameWith(glass, 16, 17);
        CHECKS.same("17 more", glass.apart(0, 1), 16 + 17);
        CHECKS.same("but name 1 was missed", claims(glass), "0 0");
        // one more, as its BASE is 1 now
        frameWith(Fingers.charge(glass, 16, 1), 16, 17, 21);
        CHECKS.same("as it was found", claims(glass), "1 1");
        Palmward missed = halves(17);
        missed.dial(3);
        Fingers.frame(missed, 19);
        CHECKS.same("MOVED 12", missed.where(0, 4), 12);
        missed.frame();
        CHECKS.same("a missed one claims nothing", claims(missed), "0");
        Palmward held = halves(19);
        for (int frames = 2; frames <= 7; frames++) {
            Fingers.frame(held, 19);
        }
        held.frame();
        CHECKS.same("nor does it HOLD", claims(held), "0");
    }

    private static void pans() {
        CHECKS.sentence("Terms", "with a MOVED above 12 it claims a PAN");
        Palmward glass = halves(17);
        glass.dial(3);
        Fingers.frame(glass, 19);
        CHECKS.same("MOVED 12", glass.where(0, 4), 12);
        CHECKS.same("is none", claims(glass), "0");
        CHECKS.same("nor counted", counts(glass, 0), "0 0 0 0 1");
        glass.dial(1);
        frameWith(glass, 18, 19);
        CHECKS.same("LX", glass.ofContact(0, 0), 23);
        CHECKS.same("MOVED 12.75", glass.where(0, 4), 12.75);
        CHECKS.same("is one", claims(glass), "2");
        CHECKS.same("and counted", counts(glass, 0), "0 0 1 0 1");
        Palmward quarter = halves(17);
        quarter.dial(3);
        Fingers.frame(quarter, 19);
        quarter.dial(1);
        Fingers.charge(Fingers.dots(quarter, 19), 18, 13);
        quarter.frame();
        CHECKS.same("MOVED 12.25", quarter.where(0, 4), 12.25);
        CHECKS.same("is one, too", claims(quarter), "2");
    }

    private static void panOfBothWays() {
        CHECKS.sentence("Terms", "NAME by NAME that claims nothing, and was matched: with a MOVED above 12");
        Palmward twelve = halves(17);
        Fingers.frame(twelve, 18, 26);
        CHECKS.same("8 to the right, 4 down", twelve.where(0, 4), 12);
        CHECKS.same("is none", claims(twelve), "0");
        Palmward more = halves(17);
        Fingers.charge(Fingers.dots(more, 26), 18, 13);
        more.frame();
        CHECKS.same("8 to the right, 5 down", more.where(0, 4), 13);
        CHECKS.same("is one", claims(more), "2");
        Palmward back = halves(17);
        back.dial(3);
        Fingers.frame(back, 19);
        back.dial(4);
        Fingers.frame(back, 17);
        CHECKS.same("never above 12", back.where(0, 4), 12);
        CHECKS.same("back where it began", claims(back), "0");
    }

    private static void holds() {
        CHECKS.sentence("Terms", "otherwise, with FRAMES of 8 or more, a HOLD");
        Palmward glass = halves(19);
        for (int frames = 1; frames <= 10; frames++) {
            CHECKS.same("FRAMES", glass.ofContact(0, 2), frames);
            CHECKS.same("claims with FRAMES " + frames, claims(glass), frames >= 8 ? "3" : "0");
            CHECKS.same("AREA with FRAMES " + frames, counts(glass, 0), frames >= 8 ? "0 0 0 1 1" : "0 0 0 0 1");
            Fingers.frame(glass, 19);
        }
        Palmward missed = halves(19);
        for (int frames = 2; frames <= 7; frames++) {
            Fingers.frame(missed, 19);
        }
        missed.frame();
        CHECKS.same("8 frames, but 7 FRAMES", claims(missed), "0");
        Fingers.frame(missed, 19);
        CHECKS.same("8 FRAMES", claims(missed), "3");
    }

    private static void panAheadOfHold() {
        CHECKS.sentence("Terms", "it claims a PAN; otherwise");
        Palmward glass = halves(17);
        for (int frames = 2; frames <= 7; frames++) {
            Fingers.frame(glass, 17);
        }
        Fingers.frame(glass, 19);
        CHECKS.same("FRAMES", glass.ofContact(0, 2), 8);
        CHECKS.same("a PAN with 8 FRAMES", claims(glass), "2");
        CHECKS.same("no HOLD", counts(glass, 0), "0 0 1 0 1");
        Palmward held = halves(17);
        for (int frames = 2; frames <= 8; frames++) {
            Fingers.frame(held, 17);
        }
        Fingers.frame(held, 19);
        CHECKS.isTrue("it moved then", held.where(0, 4) > 12);
        CHECKS.same("but HELD ahead of it", claims(held), "3");
        CHECKS.same("no PAN", counts(held, 0), "0 0 0 1 1");
    }

    private static void numbersOfClaims() {
        CHECKS.sentence("Promise 12", "4 what it claims: 0 nothing, 1 a PINCH, 2 a PAN, 3 a HOLD");
        Palmward glass = halves(2, 4, 40, 44);
        Fingers.frame(glass, 0, 6, 40, 46);
        CHECKS.same("two pinch by 32, one of the others pans", claims(glass), "1 1 0 2");
        for (int frames = 3; frames <= 8; frames++) {
            glass.press(0, 5, 38);
            glass.frame();
        }
        CHECKS.same("the last one holds", glass.ofContact(2, 4), 3);
        CHECKS.same("left", counts(glass, 0), "0 1 0 1 1");
        CHECKS.same("right", counts(glass, 1), "0 1 1 0 0");
    }

    private static void countedOnce() {
        CHECKS.sentence("Terms", "The AREA of each has one more of these.");
        Palmward one = new Palmward();
        one.area(0, 7, 0, 5);
        Fingers.frame(one, 17, 21);
        Fingers.frame(one, 16, 23);
        CHECKS.same("one AREA of both has two", counts(one, 0), "0 2 0 0 2");
        Fingers.frame(one, 16, 23);
        CHECKS.same("once", counts(one, 0), "0 2 0 0 2");
        Palmward outside = new Palmward();
        outside.area(0, 3, 0, 5);
        Fingers.frame(outside, 17, 21);
        Fingers.frame(outside, 16, 23);
        CHECKS.same("both claim", claims(outside), "1 1");
        CHECKS.same("the one outside is counted nowhere", counts(outside, 0), "0 1 0 0 1");
        Palmward gone = halves(19);
        Fingers.frame(gone, 20);
        Fingers.frame(gone, 21);
        CHECKS.same("it PANS where it began", counts(gone, 0), "0 0 1 0 1");
        CHECKS.same("not where it is", counts(gone, 1), "0 0 0 0 0");
    }

    private static void palm(Palmward glass) {
        glass.noise(0, 20);
        glass.noise(1, 20);
        CHECKS.same("a PALM that it would be matched with", glass.many(9) == 1 ? glass.wouldMatch(0) : -1, 0);
        glass.frame();
        CHECKS.same("CANCELLED", glass.many(5), 1);
    }

    private static void takenBack() {
        CHECKS.sentence("Terms", "what it claims is taken back from its AREA (one less there)");
        Palmward pan = halves(2);
        Fingers.frame(pan, 0);
        CHECKS.same("a PAN", counts(pan, 0), "0 0 1 0 1");
        palm(pan);
        CHECKS.same("the PAN is taken back", counts(pan, 0), "0 0 0 0 0");
        Palmward hold = halves(0);
        for (int frames = 2; frames <= 8; frames++) {
            Fingers.frame(hold, 0);
        }
        CHECKS.same("a HOLD", counts(hold, 0), "0 0 0 1 1");
        palm(hold);
        CHECKS.same("the HOLD is taken back", counts(hold, 0), "0 0 0 0 0");
        Palmward two = halves(32);
        Fingers.frame(two, 34);
        two.frame();
        two.frame();
        Fingers.frame(two, 2);
        Fingers.frame(two, 0);
        CHECKS.same("one is lifted, and one there", counts(two, 0), "0 0 2 0 1");
        palm(two);
        CHECKS.same("one less", counts(two, 0), "0 0 1 0 0");
    }

    private static void pinchTakenBack() {
        CHECKS.sentence("Terms", "what it claims is taken back");
        Palmward glass = halves(2, 4);
        frameWith(glass, 5, 4, 0);
        CHECKS.same("17 more", glass.apart(0, 1), 33);
        CHECKS.same("one left", counts(glass, 0), "0 1 0 0 1");
        CHECKS.same("one right", counts(glass, 1), "0 1 0 0 1");
        // one more, as its BASE is 1 now, so that the row is flat
        palm(Fingers.charge(glass, 5, 1));
        CHECKS.same("the left one is taken back", counts(glass, 0), "0 0 0 0 0");
        CHECKS.same("the right one is not", counts(glass, 1), "0 1 0 0 1");
        CHECKS.same("which claims it as before", glass.ofContact(1, 4), 1);
    }

    private static void nothingToTakeBack() {
        CHECKS.sentence("Terms", "it is CANCELLED: it is gone, and what it claims");
        Palmward nothing = halves(34);
        nothing.frame();
        nothing.frame();
        Fingers.frame(nothing, 0);
        CHECKS.same("a TAP, and one that claims nothing", counts(nothing, 0), "1 0 0 0 1");
        palm(nothing);
        CHECKS.same("the TAP stays", counts(nothing, 0), "1 0 0 0 0");
        Palmward outside = new Palmward();
        outside.area(4, 7, 0, 5);
        Fingers.frame(outside, 2);
        Fingers.frame(outside, 0);
        CHECKS.same("a PAN outside all AREAS", claims(outside), "2");
        palm(outside);
        CHECKS.same("is taken back nowhere", counts(outside, 0), "0 0 0 0 0");
    }

    private static void wiped() {
        CHECKS.sentence("Promise 9", "all CONTACTS are CANCELLED (as in (2))");
        Palmward glass = new Palmward();
        glass.area(0, 7, 0, 5);
        Fingers.frame(glass, 17, 21, 35);
        Fingers.frame(glass, 16, 23, 37);
        CHECKS.same("two pinch, one pans", counts(glass, 0), "0 2 1 0 3");
        CHECKS.same("wipe()", glass.wipe(), 3);
        CHECKS.same("all taken back", counts(glass, 0), "0 0 0 0 0");
        CHECKS.same("CANCELLED", glass.many(5), 3);
        CHECKS.same("wipe() without any", glass.wipe(), 0);
        CHECKS.same("once", counts(glass, 0), "0 0 0 0 0");
        CHECKS.same("no more CANCELLED", glass.many(5), 3);
        Palmward tapped = halves(19);
        tapped.frame();
        tapped.frame();
        tapped.wipe();
        CHECKS.same("a TAP stays", counts(tapped, 0), "1 0 0 0 0");
    }

    private static void areas() {
        CHECKS.sentence("Terms", "each from a column to another one, and from a row to another one (both included)");
        for (int cell = 0; cell < 48; cell++) {
            Palmward glass = new Palmward();
            glass.area(2, 5, 1, 4);
            glass.area(6, 6, 5, 5);
            glass.area(0, 0, 0, 5);
            Fingers.frame(glass, cell);
            boolean isInside = cell % 8 >= 2 && cell % 8 <= 5 && cell / 8 >= 1 && cell / 8 <= 4;
            int due = cell % 8 == 0 ? 2 : cell == 46 ? 1 : isInside ? 0 : -1;
            CHECKS.same("AREA of " + cell, glass.ofContact(0, 5), due);
        }
        Palmward whole = new Palmward();
        whole.area(0, 7, 0, 5);
        Fingers.frame(whole, 0, 7, 40, 47);
        CHECKS.same("the whole glass", whole.ofArea(0, 4), 4);
    }

    private static void areaNumbers() {
        CHECKS.sentence("Terms", "at most 4, numbered from 0");
        Palmward glass = new Palmward();
        for (int area = 0; area < 4; area++) {
            int due = area;
            CHECKS.refusesIndex("not told yet: " + area, glass, () -> glass.ofArea(due, 0));
            CHECKS.same("AREAS", glass.many(6), area);
            CHECKS.same("its number", glass.area(area, 7, area, 5), area);
            CHECKS.same("told", glass.ofArea(area, 0), 0);
        }
        CHECKS.refuses("a fifth one", glass, IllegalStateException.class, () -> glass.area(0, 7, 0, 5));
        CHECKS.same("AREAS", glass.many(6), 4);
        CHECKS.refusesIndex("no AREA 4", glass, () -> glass.ofArea(4, 0));
        Fingers.frame(glass, 0);
        CHECKS.same("the fifth one has nothing", glass.ofContact(0, 5), 0);
    }

    private static void contactsOfAnArea() {
        CHECKS.sentence("Promise 16", "4 CONTACTS now whose AREA it is");
        Palmward glass = new Palmward();
        glass.area(0, 7, 0, 5);
        CHECKS.same("none", glass.ofArea(0, 4), 0);
        Fingers.frame(glass, 0, 2, 4, 6, 16);
        CHECKS.same("five", glass.ofArea(0, 4), 5);
        glass.frame();
        CHECKS.same("missed ones, too", glass.ofArea(0, 4), 5);
        glass.frame();
        CHECKS.same("lifted ones not", glass.ofArea(0, 4), 0);
        CHECKS.same("but five TAPS", glass.ofArea(0, 0), 5);
    }
}
