/** Promises 17 and 22: many and digest. */
public final class CountsTest {
    private static final Checks CHECKS = new Checks("CountsTest");

    public static void main(String[] args) {
        counts();
        wrongCounts();
        digests();
        CHECKS.end();
    }

    private static void checkMany(Palmward glass, String when, int... due) {
        String[] names = {"FRAMES", "THROWN", "CONTACTS", "BEGAN", "LIFTED", "CANCELLED", "AREAS", "HUM", "PEAKS",
            "PALMS"};
        for (int what = 0; what < names.length; what++) {
            CHECKS.same(when + ": " + names[what], glass.many(what), due[what]);
        }
    }

    private static void counts() {
        Palmward glass = new Palmward();
        glass.area(0, 7, 0, 5);
        glass.press(1, 2, 40);
        glass.press(6, 2, 40);
        checkMany(glass, "two wait", 0, 0, 0, 0, 0, 0, 1, 2, 2, 0);
        glass.frame();
        checkMany(glass, "taken", 1, 0, 2, 2, 0, 0, 1, 0, 0, 0);
        glass.frame();
        glass.frame();
        checkMany(glass, "lifted", 3, 0, 0, 2, 2, 0, 1, 0, 0, 0);
        glass.press(1, 2, 40);
        glass.frame();
        glass.wipe();
        checkMany(glass, "wiped", 4, 0, 0, 3, 2, 1, 1, 0, 0, 0);
        glass.heat(19);
        checkMany(glass, "hot", 4, 0, 0, 3, 2, 1, 1, 19, 0, 0);
        glass.frame();
        checkMany(glass, "thrown", 4, 1, 0, 3, 2, 1, 1, 15, 0, 0);
        glass.heat(30);
        checkMany(glass, "a PALM", 4, 1, 0, 3, 2, 1, 1, 0, 1, 1);
    }

    private static void wrongCounts() {
        Palmward glass = new Palmward();
        CHECKS.refusesArgument("many(-1)", glass, () -> glass.many(-1));
        CHECKS.refusesArgument("many(10)", glass, () -> glass.many(10));
    }

    private static void digests() {
        Palmward glass = new Palmward();
        checkDigest(glass, "new");
        glass.area(0, 3, 0, 5);
        glass.area(2, 7, 1, 4);
        checkDigest(glass, "areas");
        glass.press(1, 1, 50);
        glass.press(5, 3, 70);
        checkDigest(glass, "two wait");
        glass.frame();
        glass.dial(1);
        glass.heat(-3);
        for (int frame = 0; frame < 9; frame++) {
            glass.press(frame % 3, 1, 45 + frame);
            glass.press(5, 3 - frame % 2, 61);
            checkDigest(glass, "waiting " + frame);
            glass.frame();
            checkDigest(glass, "moving " + frame);
        }
        glass.press(0, 0, 200);
        glass.press(2, 2, 200);
        glass.press(4, 2, 200);
        checkDigest(glass, "a palm");
        glass.wipe();
        checkDigest(glass, "wiped");
    }

    private static void checkDigest(Palmward glass, String when) {
        long due = digestOf(glass);
        CHECKS.same("digest() " + when, glass.digest(), due);
        CHECKS.same("digest() " + when + " again", glass.digest(), due);
    }

    private static long digestOf(Palmward glass) {
        long d = 58249;
        for (int what = 0; what <= 9; what++) {
            d = d * 31 + glass.many(what);
        }
        for (int y = 0; y < 6; y++) {
            for (int x = 0; x < 8; x++) {
                d = d * 31 + glass.ofCell(x, y, 1);
                d = d * 31 + glass.ofCell(x, y, 2);
            }
        }
        for (int peak = 0; peak < glass.many(8); peak++) {
            for (int what = 0; what <= 4; what++) {
                d = d * 31 + glass.ofPeak(peak, what);
            }
        }
        for (int name = 0; name < 5; name++) {
            int it = name;
            if (Checks.textOf(() -> glass.ofContact(it, 0)).startsWith("throws")) {
                continue;
            }
            d = d * 31 + name;
            for (int what = 0; what <= 5; what++) {
                d = d * 31 + glass.ofContact(name, what);
            }
            d = d * 31 + glass.wouldMatch(name);
            for (int what = 0; what <= 4; what++) {
                d = d * 31 + (long) (glass.where(name, what) * 16);
            }
            d = d * 31 + (long) (glass.guess(name, 2, false) * 16);
            d = d * 31 + (long) (glass.guess(name, 2, true) * 16);
        }
        for (int area = 0; area < glass.many(6); area++) {
            for (int what = 0; what <= 4; what++) {
                d = d * 31 + glass.ofArea(area, what);
            }
        }
        for (int y = 0; y < 6; y++) {
            for (int what = 0; what <= 2; what++) {
                d = d * 31 + glass.ofRow(y, what);
            }
        }
        return d * 31 + glass.calmIn();
    }
}
