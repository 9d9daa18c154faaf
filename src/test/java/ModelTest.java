import java.util.Random;

/** Long mixed runs, the program beside the model: each call answers the same. Promises 1 to 22, (1) to (6). */
public final class ModelTest {
    private static final int RUNS = 400;
    private static final int CALLS = 512;

    private final Checks checks = new Checks("ModelTest");
    private final int[] seen = new int[12];
    private Random random;
    private Palmward glass;
    private Model model;
    private int run;
    private int call;
    private int fingers;
    private final int[] x = new int[6];
    private final int[] y = new int[6];
    private int strength;
    private boolean isRight;

    public static void main(String[] args) {
        ModelTest test = new ModelTest();
        for (int run = 0; run < RUNS; run++) {
            test.runOne(run);
        }
        test.checkVariety();
        test.checks.end();
    }

    private void runOne(int number) {
        run = number;
        random = new Random(number);
        glass = new Palmward();
        model = new Model();
        fingers = number % 7;
        strength = 24 + random.nextInt(60);
        call = 0;
        isRight = true;
        for (int finger = 0; finger < 6; finger++) {
            x[finger] = random.nextInt(8);
            y[finger] = random.nextInt(6);
        }
        tellEarly();
        while (call < CALLS && isRight) {
            step();
        }
        for (int what = 0; what < 4; what++) {
            for (int area = 0; area < glass.many(6); area++) {
                seen[what] += glass.ofArea(area, what);
            }
        }
        for (int what = 0; what < 6; what++) {
            seen[4 + what] += glass.many(what);
        }
    }

    private void tellEarly() {
        if (run % 4 != 0) {
            both("area(0, 7, 0, 5)", () -> glass.area(0, 7, 0, 5), () -> model.area(0, 7, 0, 5));
            both("area(2, 5, 1, 3)", () -> glass.area(2, 5, 1, 3), () -> model.area(2, 5, 1, 3));
        }
        if (run % 4 == 1) {
            both("limit(30)", () -> glass.limit(30), () -> model.limit(30));
        }
    }

    /** A run whose tests never meet a tap, a pinch or a palm would prove little. */
    private void checkVariety() {
        String[] names = {"taps", "pinches", "pans", "holds", "frames", "thrown", "contacts", "began", "lifted",
            "cancelled"};
        for (int what = 0; what < names.length; what++) {
            checks.isTrue("many " + names[what] + ": " + seen[what], seen[what] > 100);
        }
    }

    private void step() {
        int kind = random.nextInt(run % 3 == 0 ? 40 : 10);
        if (kind == 0) {
            tell();
        } else if (kind == 1) {
            ask();
        } else if (kind == 2) {
            forecast();
        } else if (kind == 3 && random.nextInt(3) == 0) {
            askWrongly();
        } else if (kind == 4 && random.nextInt(4) == 0) {
            both("digest()", glass::digest, model::digest);
        } else {
            touch();
        }
    }

    private void touch() {
        for (int finger = 0; finger < fingers; finger++) {
            if (random.nextInt(4) == 0) {
                x[finger] = Math.max(0, Math.min(7, x[finger] + random.nextInt(3) - 1));
                y[finger] = Math.max(0, Math.min(5, y[finger] + random.nextInt(3) - 1));
            }
            if (random.nextInt(12) != 0) {
                press(x[finger], y[finger], Math.min(200, strength + random.nextInt(9)));
            }
        }
        if (random.nextInt(25) == 0) {
            press(random.nextInt(8), random.nextInt(6), 200);
            press(random.nextInt(8), random.nextInt(6), 200);
        }
        if (random.nextInt(6) == 0) {
            forecast();
        }
        both("frame()", glass::frame, model::frame);
        if (random.nextInt(15) == 0) {
            fingers = random.nextInt(7);
            strength = random.nextInt(3) == 0 ? 20 + random.nextInt(180) : 20 + random.nextInt(40);
        }
    }

    private void press(int column, int row, int how) {
        both("press(" + column + ", " + row + ", " + how + ")", () -> glass.press(column, row, how),
            () -> model.press(column, row, how));
    }

    private void tell() {
        int a = random.nextInt(8);
        int b = a + random.nextInt(8 - a);
        int c = random.nextInt(6);
        int d = c + random.nextInt(6 - c);
        int kind = random.nextInt(24);
        if (kind < 6) {
            both("area(" + a + ", " + b + ", " + c + ", " + d + ")", () -> glass.area(a, b, c, d),
                () -> model.area(a, b, c, d));
        } else if (kind < 10) {
            int dial = 1 + random.nextInt(4);
            both("dial(" + dial + ")", () -> glass.dial(dial), () -> model.dial(dial));
        } else if (kind < 13) {
            int limit = 1 + random.nextInt(30);
            both("limit(" + limit + ")", () -> glass.limit(limit), () -> model.limit(limit));
        } else if (kind < 17) {
            int heat = random.nextInt(61) - 30;
            both("heat(" + heat + ")", () -> glass.heat(heat), () -> model.heat(heat));
        } else if (kind < 23) {
            int much = random.nextInt(81) - 40;
            both("noise(" + c + ", " + much + ")", () -> glass.noise(c, much), () -> model.noise(c, much));
        } else {
            both("wipe()", glass::wipe, model::wipe);
        }
    }

    private void ask() {
        askAt(random.nextInt(8), random.nextInt(6), random.nextInt(5), random.nextInt(10));
    }

    private void askWrongly() {
        int[] odd = {Integer.MIN_VALUE, -1, 0, 1, 4, 5, 6, 7, 8, 9, 10, 48, 201, Integer.MAX_VALUE};
        askAt(odd[random.nextInt(odd.length)], odd[random.nextInt(odd.length)], odd[random.nextInt(odd.length)],
            odd[random.nextInt(odd.length)]);
        int a = odd[random.nextInt(odd.length)];
        int b = odd[random.nextInt(odd.length)];
        int c = odd[random.nextInt(odd.length)];
        int d = odd[random.nextInt(odd.length)];
        press(a, b, c);
        both("area(" + a + ", " + b + ", " + c + ", " + d + ")", () -> glass.area(a, b, c, d),
            () -> model.area(a, b, c, d));
        both("noise(" + a + ", " + b + ")", () -> glass.noise(a, b), () -> model.noise(a, b));
        both("dial(" + a + ")", () -> glass.dial(a), () -> model.dial(a));
        both("limit(" + a + ")", () -> glass.limit(a), () -> model.limit(a));
        both("heat(" + a + ")", () -> glass.heat(a), () -> model.heat(a));
        both("guess(" + a + ", " + b + ")", () -> glass.guess(a, b, true), () -> model.guess(a, b, true));
        both("keepBy(" + a + ", " + b + ")", () -> glass.keepBy(a, b), () -> model.keepBy(a, b));
        both("wouldMatch(" + a + ")", () -> glass.wouldMatch(a), () -> model.wouldMatch(a));
    }

    private void askAt(int column, int row, int small, int what) {
        both("ofCell(" + column + ", " + row + ", " + small + ")", () -> glass.ofCell(column, row, small),
            () -> model.ofCell(column, row, small));
        both("ofPeak(" + row + ", " + small + ")", () -> glass.ofPeak(row, small), () -> model.ofPeak(row, small));
        both("ofContact(" + small + ", " + row + ")", () -> glass.ofContact(small, row),
            () -> model.ofContact(small, row));
        both("where(" + small + ", " + row + ")", () -> glass.where(small, row), () -> model.where(small, row));
        both("apart(" + small + ", " + row + ")", () -> glass.apart(small, row), () -> model.apart(small, row));
        both("ofRow(" + row + ", " + small + ")", () -> glass.ofRow(row, small), () -> model.ofRow(row, small));
        both("ofArea(" + row + ", " + small + ")", () -> glass.ofArea(row, small), () -> model.ofArea(row, small));
        both("many(" + what + ")", () -> glass.many(what), () -> model.many(what));
    }

    private void forecast() {
        int name = random.nextInt(5);
        int ahead = random.nextInt(10);
        int how = 1 + random.nextInt(200);
        both("guess(" + name + ", " + ahead + ", false)", () -> glass.guess(name, ahead, false),
            () -> model.guess(name, ahead, false));
        both("guess(" + name + ", " + ahead + ", true)", () -> glass.guess(name, ahead, true),
            () -> model.guess(name, ahead, true));
        both("wouldMatch(" + name + ")", () -> glass.wouldMatch(name), () -> model.wouldMatch(name));
        both("calmIn()", glass::calmIn, model::calmIn);
        both("keepBy(" + name + ", " + how + ")", () -> glass.keepBy(name, how), () -> model.keepBy(name, how));
    }

    /** Behind the first wrong answer of a run all others would be wrong, too. */
    private void both(String what, Checks.Call ofGlass, Checks.Call ofModel) {
        if (!isRight || call >= CALLS) {
            return;
        }
        call++;
        String got = Checks.textOf(ofGlass);
        String want = Checks.textOf(ofModel);
        checks.same("run " + run + ", call " + call + ": " + what, got, want);
        isRight = got.equals(want);
    }
}
