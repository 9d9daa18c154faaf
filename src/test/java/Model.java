import java.util.ArrayList;
import java.util.HashMap;
import java.util.HashSet;
import java.util.List;
import java.util.Map;
import java.util.Set;

/**
 * The document once more, in another way: nothing is kept that can be reckoned anew, and ways to match are all tried.
 * It is what ModelTest holds the program against.
 */
final class Model {
    record Peak(int cell, int px, int py, int size) {
        boolean isPalm() {
            return size > 14;
        }
    }

    static final class Finger {
        int id;
        int lx;
        int ly;
        int frames = 1;
        int misses;
        int claims;
        int area;
        float x;
        float y;
        float dx;
        float dy;
        float moved;
        float bornX;
        float bornY;
        boolean isMatched;
    }

    private final int[][] waits = new int[6][8];
    private int[][] bases = new int[6][8];
    private int heat;
    private int dial = 4;
    private int limit = 12;
    private final List<int[]> areas = new ArrayList<>();
    private final List<int[]> counts = new ArrayList<>();
    private final Finger[] fingers = new Finger[5];
    private final Map<Long, Float> bornApart = new HashMap<>();
    private int taken;
    private int thrown;
    private int began;
    private int lifted;
    private int cancelled;

    int area(int left, int right, int top, int bottom) {
        argument(0 <= left && left <= right && right <= 7 && 0 <= top && top <= bottom && bottom <= 5);
        if (areas.size() == 4) {
            throw new IllegalStateException();
        }
        areas.add(new int[] {left, right, top, bottom});
        counts.add(new int[4]);
        return areas.size() - 1;
    }

    int dial(int next) {
        argument(1 <= next && next <= 4);
        int before = dial;
        dial = next;
        return before;
    }

    int limit(int next) {
        argument(1 <= next && next <= 30);
        int before = limit;
        limit = next;
        return before;
    }

    int heat(int next) {
        argument(-30 <= next && next <= 30);
        int before = heat;
        heat = next;
        return before;
    }

    int press(int x, int y, int strength) {
        index(isThere(x, y));
        argument(1 <= strength && strength <= 200);
        pressOn(waits, x, y, strength);
        return signals()[y][x];
    }

    int noise(int y, int much) {
        index(0 <= y && y <= 5);
        argument(-40 <= much && much <= 40);
        for (int x = 0; x < 8; x++) {
            waits[y][x] += much;
        }
        return hum(signals());
    }

    int frame() {
        int[][] signals = signals();
        boolean isThrown = hum(signals) > limit;
        if (isThrown) {
            thrown++;
        } else {
            taken++;
            follow(signals);
        }
        bases = settled(bases, signals);
        clear();
        return isThrown ? -2 : many(2);
    }

    int wipe() {
        int before = many(2);
        for (int name = 0; name < 5; name++) {
            if (fingers[name] != null) {
                cancel(name);
            }
        }
        for (int[] row : bases) {
            java.util.Arrays.fill(row, heat);
        }
        clear();
        return before;
    }

    int ofCell(int x, int y, int what) {
        index(isThere(x, y));
        argument(0 <= what && what <= 4);
        int[][] signals = signals();
        int size = region(signals, x, y).size();
        int[] answers = {heat + waits[y][x], bases[y][x], signals[y][x], signals[y][x] >= 20 ? 1 : 0, size};
        return answers[what];
    }

    int ofPeak(int number, int what) {
        List<Peak> peaks = peaks(signals());
        index(0 <= number && number < peaks.size());
        argument(0 <= what && what <= 4);
        Peak peak = peaks.get(number);
        return new int[] {peak.cell, peak.px, peak.py, peak.size, peak.isPalm() ? 1 : 0}[what];
    }

    int ofContact(int name, int what) {
        Finger finger = finger(name);
        argument(0 <= what && what <= 5);
        int[] answers = {finger.lx, finger.ly, finger.frames, finger.misses, finger.claims, finger.area};
        return answers[what];
    }

    double where(int name, int what) {
        Finger finger = finger(name);
        argument(0 <= what && what <= 4);
        return new float[] {finger.x, finger.y, finger.dx, finger.dy, finger.moved}[what];
    }

    double apart(int one, int other) {
        return distance(finger(one), finger(other));
    }

    int ofRow(int y, int what) {
        index(0 <= y && y <= 5);
        argument(0 <= what && what <= 2);
        int[] answers = new int[3];
        for (int x = 0; x < 8; x++) {
            answers[0] += ofCell(x, y, 2);
            answers[1] += ofCell(x, y, 3);
        }
        answers[2] = (int) peaks(signals()).stream().filter(peak -> peak.cell / 8 == y).count();
        return answers[what];
    }

    int ofArea(int area, int what) {
        index(0 <= area && area < areas.size());
        argument(0 <= what && what <= 4);
        if (what < 4) {
            return counts.get(area)[what];
        }
        int there = 0;
        for (Finger finger : fingers) {
            there += finger != null && finger.area == area ? 1 : 0;
        }
        return there;
    }

    int many(int what) {
        argument(0 <= what && what <= 9);
        int there = 0;
        for (Finger finger : fingers) {
            there += finger != null ? 1 : 0;
        }
        List<Peak> peaks = peaks(signals());
        int palms = (int) peaks.stream().filter(Peak::isPalm).count();
        int[] answers = {taken, thrown, there, began, lifted, cancelled, areas.size(), hum(signals()), peaks.size(),
            palms};
        return answers[what];
    }

    double guess(int name, int ahead, boolean isY) {
        Finger finger = finger(name);
        argument(0 <= ahead && ahead <= 9);
        float guessed = isY ? finger.y + finger.dy * ahead : finger.x + finger.dx * ahead;
        return Math.max(0f, Math.min(guessed, isY ? 40f : 56f));
    }

    int wouldMatch(int name) {
        finger(name);
        int[][] signals = signals();
        return hum(signals) > limit ? -1 : match(peaks(signals))[name];
    }

    int calmIn() {
        int[][] rest = bases;
        for (int times = 0; times <= 60; times++) {
            int[][] signals = signals(new int[6][8], rest);
            if (java.util.Arrays.deepEquals(signals, new int[6][8])) {
                return times;
            }
            rest = settled(rest, signals);
        }
        return -1;
    }

    int keepBy(int name, int strength) {
        finger(name);
        argument(1 <= strength && strength <= 200);
        for (int cell = 0; cell < 48; cell++) {
            int[][] tried = new int[6][];
            for (int y = 0; y < 6; y++) {
                tried[y] = waits[y].clone();
            }
            pressOn(tried, cell % 8, cell / 8, strength);
            int[][] signals = signals(tried, bases);
            List<Peak> peaks = peaks(signals);
            int peak = hum(signals) > limit ? -1 : match(peaks)[name];
            if (peak >= 0 && peaks.get(peak).cell == cell) {
                return cell;
            }
        }
        return -1;
    }

    long digest() {
        List<Long> numbers = new ArrayList<>();
        for (int what = 0; what < 10; what++) {
            numbers.add((long) many(what));
        }
        for (int cell = 0; cell < 48; cell++) {
            numbers.add((long) ofCell(cell % 8, cell / 8, 1));
            numbers.add((long) ofCell(cell % 8, cell / 8, 2));
        }
        for (int peak = 0; peak < many(8); peak++) {
            for (int what = 0; what < 5; what++) {
                numbers.add((long) ofPeak(peak, what));
            }
        }
        for (int name = 0; name < 5; name++) {
            if (fingers[name] == null) {
                continue;
            }
            numbers.add((long) name);
            for (int what = 0; what < 6; what++) {
                numbers.add((long) ofContact(name, what));
            }
            numbers.add((long) wouldMatch(name));
            for (int what = 0; what < 5; what++) {
                numbers.add((long) (where(name, what) * 16));
            }
            numbers.add((long) (guess(name, 2, false) * 16));
            numbers.add((long) (guess(name, 2, true) * 16));
        }
        for (int area = 0; area < areas.size(); area++) {
            for (int what = 0; what < 5; what++) {
                numbers.add((long) ofArea(area, what));
            }
        }
        for (int y = 0; y < 6; y++) {
            for (int what = 0; what < 3; what++) {
                numbers.add((long) ofRow(y, what));
            }
        }
        numbers.add((long) calmIn());
        long d = 58249;
        for (long number : numbers) {
            d = d * 31 + number;
        }
        return d;
    }

    // ---- one frame, step by step

    private void follow(int[][] signals) {
        List<Peak> peaks = peaks(signals);
        int[] matched = match(peaks);
        Set<Integer> used = new HashSet<>();
        for (int name = 0; name < 5; name++) {
            if (matched[name] >= 0) {
                used.add(matched[name]);
                if (peaks.get(matched[name]).isPalm()) {
                    cancel(name);
                } else {
                    move(fingers[name], peaks.get(matched[name]));
                }
            }
        }
        for (int name = 0; name < 5; name++) {
            if (fingers[name] != null && matched[name] < 0) {
                miss(name);
            }
        }
        for (int peak = 0; peak < peaks.size(); peak++) {
            if (!used.contains(peak) && !peaks.get(peak).isPalm()) {
                begin(peaks.get(peak));
            }
        }
        claims();
    }

    private void move(Finger finger, Peak peak) {
        finger.isMatched = true;
        finger.lx = peak.px;
        finger.ly = peak.py;
        finger.frames++;
        finger.misses = 0;
        float[] quarters = {0.25f, 0.5f, 0.75f, 1f};
        finger.dx = ((float) peak.px - finger.x) * quarters[dial - 1];
        finger.dy = ((float) peak.py - finger.y) * quarters[dial - 1];
        finger.x = finger.x + finger.dx;
        finger.y = finger.y + finger.dy;
        float sum = Math.abs(finger.x - finger.bornX) + Math.abs(finger.y - finger.bornY);
        finger.moved = Math.max(finger.moved, sum);
    }

    private void miss(int name) {
        Finger finger = fingers[name];
        finger.isMatched = false;
        finger.misses++;
        finger.dx = 0;
        finger.dy = 0;
        if (finger.misses == 2) {
            fingers[name] = null;
            lifted++;
            if (finger.claims == 0 && finger.frames <= 4 && finger.area != -1) {
                counts.get(finger.area)[0]++;
            }
        }
    }

    private void begin(Peak peak) {
        for (int name = 0; name < 5; name++) {
            if (fingers[name] == null) {
                Finger finger = new Finger();
                finger.id = began++;
                finger.lx = peak.px;
                finger.ly = peak.py;
                finger.x = peak.px;
                finger.y = peak.py;
                finger.bornX = peak.px;
                finger.bornY = peak.py;
                finger.area = areaOf(peak.cell);
                for (Finger other : fingers) {
                    if (other != null) {
                        bornApart.put(pair(finger, other), distance(finger, other));
                    }
                }
                fingers[name] = finger;
                return;
            }
        }
    }

    private int areaOf(int cell) {
        int found = -1;
        for (int area = 0; area < areas.size(); area++) {
            int[] is = areas.get(area);
            if (is[0] <= cell % 8 && cell % 8 <= is[1] && is[2] <= cell / 8 && cell / 8 <= is[3]) {
                found = area;
            }
        }
        return found;
    }

    private void claims() {
        for (int name = 0; name < 5; name++) {
            for (int other = name + 1; other < 5; other++) {
                Finger one = fingers[name];
                Finger two = fingers[other];
                if (mayClaim(one) && mayClaim(two)
                        && Math.abs(distance(one, two) - bornApart.get(pair(one, two))) > 16f) {
                    claim(one, 1);
                    claim(two, 1);
                }
            }
        }
        for (Finger finger : fingers) {
            if (mayClaim(finger)) {
                if (finger.moved > 12f) {
                    claim(finger, 2);
                } else if (finger.frames >= 8) {
                    claim(finger, 3);
                }
            }
        }
    }

    private static boolean mayClaim(Finger finger) {
        return finger != null && finger.isMatched && finger.claims == 0;
    }

    private void claim(Finger finger, int kind) {
        finger.claims = kind;
        if (finger.area != -1) {
            counts.get(finger.area)[kind]++;
        }
    }

    private void cancel(int name) {
        Finger finger = fingers[name];
        fingers[name] = null;
        cancelled++;
        if (finger.claims != 0 && finger.area != -1) {
            counts.get(finger.area)[finger.claims]--;
        }
    }

    private static long pair(Finger one, Finger other) {
        return Math.min(one.id, other.id) * 1_000_000L + Math.max(one.id, other.id);
    }

    private static float distance(Finger one, Finger other) {
        return Math.abs(one.x - other.x) + Math.abs(one.y - other.y);
    }

    // ---- what a picture shows

    private int[][] signals() {
        return signals(waits, bases);
    }

    private int[][] signals(int[][] more, int[][] rest) {
        int[][] signals = new int[6][8];
        for (int y = 0; y < 6; y++) {
            for (int x = 0; x < 8; x++) {
                signals[y][x] = heat + more[y][x] - rest[y][x];
            }
        }
        return signals;
    }

    private static void pressOn(int[][] on, int x, int y, int strength) {
        for (int[] step : new int[][] {{0, 0, 1}, {1, 0, 2}, {-1, 0, 2}, {0, 1, 2}, {0, -1, 2}, {1, 1, 4}, {1, -1, 4},
            {-1, 1, 4}, {-1, -1, 4}}) {
            if (isThere(x + step[0], y + step[1])) {
                on[y + step[1]][x + step[0]] += strength / step[2];
            }
        }
    }

    private static int[][] settled(int[][] rest, int[][] signals) {
        int[][] next = new int[6][8];
        for (int y = 0; y < 6; y++) {
            for (int x = 0; x < 8; x++) {
                int signal = signals[y][x];
                int step = signal <= -10 ? -4 : signal >= 10 ? 4 : signal < 0 ? -1 : signal > 0 ? 1 : 0;
                boolean isHeld = signal >= 20 && region(signals, x, y).size() <= 14;
                next[y][x] = rest[y][x] + (isHeld ? 0 : step);
            }
        }
        return next;
    }

    private static Set<Integer> region(int[][] signals, int x, int y) {
        Set<Integer> found = new HashSet<>();
        spread(signals, x, y, found);
        return found;
    }

    private static void spread(int[][] signals, int x, int y, Set<Integer> found) {
        if (isThere(x, y) && signals[y][x] >= 20 && found.add(8 * y + x)) {
            spread(signals, x + 1, y, found);
            spread(signals, x - 1, y, found);
            spread(signals, x, y + 1, found);
            spread(signals, x, y - 1, found);
        }
    }

    private static List<Peak> peaks(int[][] signals) {
        List<Peak> peaks = new ArrayList<>();
        for (int cell = 0; cell < 48; cell++) {
            int x = cell % 8;
            int y = cell / 8;
            boolean isPeak = signals[y][x] >= 20;
            long sum = 0;
            long sumX = 0;
            long sumY = 0;
            for (int other = 0; other < 48; other++) {
                int ox = other % 8;
                int oy = other / 8;
                if (Math.abs(ox - x) > 1 || Math.abs(oy - y) > 1) {
                    continue;
                }
                int signal = signals[oy][ox];
                if (other != cell && (signal > signals[y][x] || signal == signals[y][x] && other < cell)) {
                    isPeak = false;
                }
                if (signal > 0) {
                    sum += signal;
                    sumX += 16L * signal * ox;
                    sumY += 16L * signal * oy;
                }
            }
            if (isPeak) {
                int px = (int) Math.floorDiv(sumX + sum, 2 * sum);
                int py = (int) Math.floorDiv(sumY + sum, 2 * sum);
                peaks.add(new Peak(cell, px, py, region(signals, x, y).size()));
            }
        }
        return peaks;
    }

    private static int hum(int[][] signals) {
        int sum = 0;
        int many = 0;
        for (int[] row : signals) {
            for (int signal : row) {
                if (signal < 20) {
                    sum += Math.abs(signal);
                    many++;
                }
            }
        }
        return many == 0 ? 0 : sum / many;
    }

    // ---- all ways to match

    private int[] bestWay;
    private int bestPairs;
    private int bestSum;

    private int[] match(List<Peak> peaks) {
        bestWay = null;
        tryName(peaks, 0, new int[5], 0, 0);
        return bestWay;
    }

    private void tryName(List<Peak> peaks, int name, int[] way, int pairs, int sum) {
        if (name == 5) {
            boolean isBetter = bestWay == null || pairs > bestPairs || pairs == bestPairs && (sum < bestSum
                || sum == bestSum && isEarlier(way, bestWay));
            if (isBetter) {
                bestWay = way.clone();
                bestPairs = pairs;
                bestSum = sum;
            }
            return;
        }
        way[name] = -1;
        tryName(peaks, name + 1, way, pairs, sum);
        for (int peak = 0; peak < peaks.size() && fingers[name] != null; peak++) {
            int across = peaks.get(peak).px - fingers[name].lx;
            int along = peaks.get(peak).py - fingers[name].ly;
            int squares = across * across + along * along;
            boolean isUsed = false;
            for (int before = 0; before < name; before++) {
                isUsed |= way[before] == peak;
            }
            if (squares <= 256 && !isUsed) {
                way[name] = peak;
                tryName(peaks, name + 1, way, pairs + 1, sum + squares);
            }
        }
        way[name] = -1;
    }

    private static boolean isEarlier(int[] one, int[] other) {
        for (int name = 0; name < 5; name++) {
            if (one[name] != other[name]) {
                return one[name] != -1 && (other[name] == -1 || one[name] < other[name]);
            }
        }
        return false;
    }

    // ---- what is refused

    private Finger finger(int name) {
        index(0 <= name && name < 5 && fingers[name] != null);
        return fingers[name];
    }

    private static boolean isThere(int x, int y) {
        return 0 <= x && x <= 7 && 0 <= y && y <= 5;
    }

    private void clear() {
        for (int[] row : waits) {
            java.util.Arrays.fill(row, 0);
        }
    }

    private static void index(boolean isRight) {
        if (!isRight) {
            throw new IndexOutOfBoundsException();
        }
    }

    private static void argument(boolean isRight) {
        if (!isRight) {
            throw new IllegalArgumentException();
        }
    }
}
