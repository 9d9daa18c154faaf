/** A glass that feels fingers and palms: 8 columns and 6 rows of cells. */
public final class Palmward {
    private static final int NONE = -1;
    private static final int THROWN_AWAY = -2;

    private static final int COLUMNS = 8;
    private static final int ROWS = 6;
    private static final int CELLS = 48;
    private static final int NAMES = 5;
    private static final int MOST_AREAS = 4;

    private static final int MOST_DIAL = 4;
    private static final int MOST_LIMIT = 30;
    private static final int FIRST_LIMIT = 12;
    private static final int MOST_HEAT = 30;
    private static final int MOST_STRENGTH = 200;
    private static final int MOST_NOISE = 40;
    private static final int MOST_AHEAD = 9;

    private static final int TOUCH = 20;
    private static final int LARGEST_FINGER = 14;
    private static final int DRIFT = 10;
    private static final int DRIFT_STEP = 4;
    private static final int REACH = 256;

    private static final int LIFTING_MISSES = 2;
    private static final int MOST_TAP_FRAMES = 4;
    private static final int HOLD_FRAMES = 8;
    private static final int PAN_MOVED = 12;
    private static final int PINCH_CHANGE = 16;
    private static final int MOST_X = 56;
    private static final int MOST_Y = 40;

    /** Also what is counted for an area at 0: a contact that claims nothing can only tap. */
    private static final int NOTHING = 0;
    private static final int TAP = 0;
    private static final int PINCH = 1;
    private static final int PAN = 2;
    private static final int HOLD = 3;
    private static final int KINDS = 4;

    private static final int MOST_CALM = 60;
    private static final long DIGEST_START = 58249L;
    private static final int DIGEST_AHEAD = 2;

    private final Sheet sheet;
    private final Picture waiting;
    private final Sheet trialSheet;
    private final Picture trialPicture;
    private final Pairing pairing;
    private final Areas areas;
    private final Hand hand;
    private int dial;
    private int limit;
    private int taken;
    private int thrown;

    public Palmward() {
        sheet = new Sheet();
        waiting = new Picture();
        trialSheet = new Sheet();
        trialPicture = new Picture();
        pairing = new Pairing();
        areas = new Areas();
        hand = new Hand(areas);
        dial = MOST_DIAL;
        limit = FIRST_LIMIT;
    }

    // ---- what is told and done

    public int area(int left, int right, int top, int bottom) throws IllegalArgumentException, IllegalStateException {
        if (left < 0 || right < left || right >= COLUMNS || top < 0 || bottom < top || bottom >= ROWS) {
            throw new IllegalArgumentException("no such area");
        }
        if (areas.told >= MOST_AREAS) {
            throw new IllegalStateException("all areas are told");
        }
        return areas.tell(left, right, top, bottom);
    }

    public int dial(int dial) throws IllegalArgumentException {
        if (dial < 1 || dial > MOST_DIAL) {
            throw new IllegalArgumentException("dial is not 1 to 4");
        }
        int before = this.dial;
        this.dial = dial;
        return before;
    }

    public int limit(int limit) throws IllegalArgumentException {
        if (limit < 1 || limit > MOST_LIMIT) {
            throw new IllegalArgumentException("limit is not 1 to 30");
        }
        int before = this.limit;
        this.limit = limit;
        return before;
    }

    public int heat(int heat) throws IllegalArgumentException {
        if (heat < -MOST_HEAT || heat > MOST_HEAT) {
            throw new IllegalArgumentException("heat is not -30 to 30");
        }
        int before = sheet.heat;
        sheet.heat = heat;
        waiting.look(sheet);
        return before;
    }

    public int press(int x, int y, int strength) throws IndexOutOfBoundsException, IllegalArgumentException {
        checkCell(x, y);
        checkStrength(strength);
        sheet.addPress(x, y, strength);
        waiting.look(sheet);
        return waiting.signals[y * COLUMNS + x];
    }

    public int noise(int y, int much) throws IndexOutOfBoundsException, IllegalArgumentException {
        checkRow(y);
        if (much < -MOST_NOISE || much > MOST_NOISE) {
            throw new IllegalArgumentException("much is not -40 to 40");
        }
        sheet.addNoise(y, much);
        waiting.look(sheet);
        return waiting.hum;
    }

    public int frame() {
        boolean isThrown = waiting.hum > limit;
        if (isThrown) {
            thrown++;
        } else {
            taken++;
            pairing.pair(waiting, hand.contacts);
            hand.take(waiting, pairing, dial);
        }
        sheet.settle(waiting);
        sheet.forgetWaits();
        waiting.look(sheet);
        return isThrown ? THROWN_AWAY : hand.countContacts();
    }

    public int wipe() {
        int before = hand.countContacts();
        hand.cancelAll();
        sheet.baseOnHeat();
        sheet.forgetWaits();
        waiting.look(sheet);
        return before;
    }

    // ---- what is asked

    public int ofCell(int x, int y, int what) throws IndexOutOfBoundsException, IllegalArgumentException {
        checkCell(x, y);
        checkWhat(what, 4);
        return cellAnswer(y * COLUMNS + x, what);
    }

    public int ofPeak(int peak, int what) throws IndexOutOfBoundsException, IllegalArgumentException {
        if (peak < 0 || peak >= waiting.peaks) {
            throw new IndexOutOfBoundsException("no such peak");
        }
        checkWhat(what, 4);
        return peakAnswer(peak, what);
    }

    public int ofContact(int name, int what) throws IndexOutOfBoundsException, IllegalArgumentException {
        checkName(name);
        checkWhat(what, 5);
        return contactAnswer(hand.contacts[name], what);
    }

    public double where(int name, int what) throws IndexOutOfBoundsException, IllegalArgumentException {
        checkName(name);
        checkWhat(what, 4);
        return whereAnswer(hand.contacts[name], what);
    }

    public double apart(int one, int other) throws IndexOutOfBoundsException {
        checkName(one);
        checkName(other);
        return hand.contacts[one].distanceTo(hand.contacts[other]);
    }

    public int ofRow(int y, int what) throws IndexOutOfBoundsException, IllegalArgumentException {
        checkRow(y);
        checkWhat(what, 2);
        return rowAnswer(y, what);
    }

    public int ofArea(int area, int what) throws IndexOutOfBoundsException, IllegalArgumentException {
        if (area < 0 || area >= areas.told) {
            throw new IndexOutOfBoundsException("no such area");
        }
        checkWhat(what, 4);
        return areaAnswer(area, what);
    }

    public int many(int what) throws IllegalArgumentException {
        checkWhat(what, 9);
        return manyAnswer(what);
    }

    // ---- what would be (nothing is changed)

    public double guess(int name, int ahead, boolean isY) throws IndexOutOfBoundsException, IllegalArgumentException {
        checkName(name);
        if (ahead < 0 || ahead > MOST_AHEAD) {
            throw new IllegalArgumentException("ahead is not 0 to 9");
        }
        return hand.contacts[name].guessAt(ahead, isY);
    }

    public int wouldMatch(int name) throws IndexOutOfBoundsException {
        checkName(name);
        return matchIn(waiting, name);
    }

    public int calmIn() {
        trialSheet.copyFrom(sheet);
        trialSheet.forgetWaits();
        for (int times = 0; times <= MOST_CALM; times++) {
            trialPicture.look(trialSheet);
            if (trialPicture.isCalm()) {
                return times;
            }
            trialSheet.settle(trialPicture);
        }
        return NONE;
    }

    public int keepBy(int name, int strength) throws IndexOutOfBoundsException, IllegalArgumentException {
        checkName(name);
        checkStrength(strength);
        for (int cell = 0; cell < CELLS; cell++) {
            if (wouldKeep(name, cell, strength)) {
                return cell;
            }
        }
        return NONE;
    }

    public long digest() {
        long d = DIGEST_START;
        for (int what = 0; what <= 9; what++) {
            d = mixed(d, manyAnswer(what));
        }
        for (int cell = 0; cell < CELLS; cell++) {
            d = mixed(d, cellAnswer(cell, 1));
            d = mixed(d, cellAnswer(cell, 2));
        }
        for (int peak = 0; peak < waiting.peaks; peak++) {
            for (int what = 0; what <= 4; what++) {
                d = mixed(d, peakAnswer(peak, what));
            }
        }
        for (int name = 0; name < NAMES; name++) {
            d = hand.has(name) ? mixedContact(d, name) : d;
        }
        for (int area = 0; area < areas.told; area++) {
            for (int what = 0; what <= 4; what++) {
                d = mixed(d, areaAnswer(area, what));
            }
        }
        for (int y = 0; y < ROWS; y++) {
            for (int what = 0; what <= 2; what++) {
                d = mixed(d, rowAnswer(y, what));
            }
        }
        return mixed(d, calmIn());
    }

    // ---- what is refused

    private static void checkCell(int x, int y) {
        if (x < 0 || x >= COLUMNS) {
            throw new IndexOutOfBoundsException("x is not 0 to 7");
        }
        checkRow(y);
    }

    private static void checkRow(int y) {
        if (y < 0 || y >= ROWS) {
            throw new IndexOutOfBoundsException("y is not 0 to 5");
        }
    }

    private static void checkStrength(int strength) {
        if (strength < 1 || strength > MOST_STRENGTH) {
            throw new IllegalArgumentException("strength is not 1 to 200");
        }
    }

    private static void checkWhat(int what, int most) {
        if (what < 0 || what > most) {
            throw new IllegalArgumentException("what is not told of");
        }
    }

    private void checkName(int name) {
        if (!hand.has(name)) {
            throw new IndexOutOfBoundsException("no contact of that name");
        }
    }

    // ---- answers behind the checks: the digest asks them too, and nothing throws there

    private int cellAnswer(int cell, int what) {
        switch (what) {
            case 0:
                return sheet.chargeOf(cell);
            case 1:
                return sheet.bases[cell];
            case 2:
                return waiting.signals[cell];
            case 3:
                return waiting.isTouched(cell) ? 1 : 0;
            default:
                return waiting.regions[cell];
        }
    }

    private int peakAnswer(int peak, int what) {
        switch (what) {
            case 0:
                return waiting.peakCells[peak];
            case 1:
                return waiting.peakXs[peak];
            case 2:
                return waiting.peakYs[peak];
            case 3:
                return waiting.sizeOf(peak);
            default:
                return waiting.isPalm(peak) ? 1 : 0;
        }
    }

    private static int contactAnswer(Contact contact, int what) {
        switch (what) {
            case 0:
                return contact.latestX;
            case 1:
                return contact.latestY;
            case 2:
                return contact.frames;
            case 3:
                return contact.misses;
            case 4:
                return contact.claim;
            default:
                return contact.area;
        }
    }

    private static double whereAnswer(Contact contact, int what) {
        switch (what) {
            case 0:
                return contact.x;
            case 1:
                return contact.y;
            case 2:
                return contact.dx;
            case 3:
                return contact.dy;
            default:
                return contact.moved;
        }
    }

    private int rowAnswer(int y, int what) {
        switch (what) {
            case 0:
                return waiting.signalOfRow(y);
            case 1:
                return waiting.touchedInRow(y);
            default:
                return waiting.peaksInRow(y);
        }
    }

    private int areaAnswer(int area, int what) {
        return what < KINDS ? areas.countOf(area, what) : hand.contactsIn(area);
    }

    private int manyAnswer(int what) {
        switch (what) {
            case 0:
                return taken;
            case 1:
                return thrown;
            case 2:
                return hand.countContacts();
            case 3:
                return hand.began;
            case 4:
                return hand.lifted;
            case 5:
                return hand.cancelled;
            case 6:
                return areas.told;
            case 7:
                return waiting.hum;
            case 8:
                return waiting.peaks;
            default:
                return waiting.countPalms();
        }
    }

    private int matchIn(Picture picture, int name) {
        if (picture.hum > limit) {
            return NONE;
        }
        pairing.pair(picture, hand.contacts);
        return pairing.peakOf(name);
    }

    private boolean wouldKeep(int name, int cell, int strength) {
        trialSheet.copyFrom(sheet);
        trialSheet.addPress(cell % COLUMNS, cell / COLUMNS, strength);
        trialPicture.look(trialSheet);
        int peak = trialPicture.peakAt(cell);
        return peak != NONE && matchIn(trialPicture, name) == peak;
    }

    private static long mixed(long d, long v) {
        return d * 31 + v;
    }

    private long mixedContact(long d, int name) {
        Contact contact = hand.contacts[name];
        long next = mixed(d, name);
        for (int what = 0; what <= 5; what++) {
            next = mixed(next, contactAnswer(contact, what));
        }
        next = mixed(next, matchIn(waiting, name));
        for (int what = 0; what <= 4; what++) {
            next = mixed(next, sixteenths(whereAnswer(contact, what)));
        }
        next = mixed(next, sixteenths(contact.guessAt(DIGEST_AHEAD, false)));
        return mixed(next, sixteenths(contact.guessAt(DIGEST_AHEAD, true)));
    }

    private static long sixteenths(double number) {
        return (long) (16 * number);
    }

    private static float withoutSign(float number) {
        return number < 0 ? -number : number;
    }

    /** What each cell is charged with for the frame that waits, and what it rests on. */
    private static final class Sheet {
        final int[] waits = new int[CELLS];
        final int[] bases = new int[CELLS];
        int heat;

        int chargeOf(int cell) {
            return heat + waits[cell];
        }

        int signalOf(int cell) {
            return chargeOf(cell) - bases[cell];
        }

        void addPress(int x, int y, int strength) {
            for (int row = Math.max(y - 1, 0); row <= Math.min(y + 1, ROWS - 1); row++) {
                for (int column = Math.max(x - 1, 0); column <= Math.min(x + 1, COLUMNS - 1); column++) {
                    int steps = (row == y ? 0 : 1) + (column == x ? 0 : 1);
                    // each step aside halves it: beside 1 step, at a corner 2
                    waits[row * COLUMNS + column] += strength >> steps;
                }
            }
        }

        void addNoise(int y, int much) {
            for (int x = 0; x < COLUMNS; x++) {
                waits[y * COLUMNS + x] += much;
            }
        }

        /** The bases follow by a picture of this sheet as it is. */
        void settle(Picture picture) {
            for (int cell = 0; cell < CELLS; cell++) {
                if (!picture.isTouched(cell) || picture.regions[cell] > LARGEST_FINGER) {
                    bases[cell] += stepFor(picture.signals[cell]);
                }
            }
        }

        private static int stepFor(int signal) {
            if (signal <= -DRIFT) {
                return -DRIFT_STEP;
            }
            if (signal >= DRIFT) {
                return DRIFT_STEP;
            }
            return Integer.compare(signal, 0);
        }

        void forgetWaits() {
            for (int cell = 0; cell < CELLS; cell++) {
                waits[cell] = 0;
            }
        }

        void baseOnHeat() {
            for (int cell = 0; cell < CELLS; cell++) {
                bases[cell] = heat;
            }
        }

        void copyFrom(Sheet other) {
            heat = other.heat;
            for (int cell = 0; cell < CELLS; cell++) {
                waits[cell] = other.waits[cell];
                bases[cell] = other.bases[cell];
            }
        }
    }

    /** What a sheet shows: signals, regions, peaks and the hum; its rows are used again by each look. */
    private static final class Picture {
        final int[] signals = new int[CELLS];
        /** By cell: how many cells its region has, 0 if it is not touched. */
        final int[] regions = new int[CELLS];
        final int[] peakCells = new int[CELLS];
        final int[] peakXs = new int[CELLS];
        final int[] peakYs = new int[CELLS];
        private final int[] chain = new int[CELLS];
        int peaks;
        int hum;

        void look(Sheet sheet) {
            for (int cell = 0; cell < CELLS; cell++) {
                signals[cell] = sheet.signalOf(cell);
                regions[cell] = 0;
            }
            for (int cell = 0; cell < CELLS; cell++) {
                if (isTouched(cell) && regions[cell] == 0) {
                    measureRegion(cell);
                }
            }
            findPeaks();
            hum = humNow();
        }

        boolean isTouched(int cell) {
            return signals[cell] >= TOUCH;
        }

        private void measureRegion(int start) {
            int size = link(start % COLUMNS, start / COLUMNS, 0);
            for (int next = 0; next < size && next < CELLS; next++) {
                int x = chain[next] % COLUMNS;
                int y = chain[next] / COLUMNS;
                size = link(x - 1, y, size);
                size = link(x + 1, y, size);
                size = link(x, y - 1, size);
                size = link(x, y + 1, size);
            }
            for (int next = 0; next < size && next < CELLS; next++) {
                regions[chain[next]] = size;
            }
        }

        /** Puts a touched cell that no region has yet behind the chain; answers how long that is then. */
        private int link(int x, int y, int size) {
            if (x < 0 || x >= COLUMNS || y < 0 || y >= ROWS || size >= CELLS) {
                return size;
            }
            int cell = y * COLUMNS + x;
            if (!isTouched(cell) || regions[cell] != 0) {
                return size;
            }
            regions[cell] = 1;
            chain[size] = cell;
            return size + 1;
        }

        private void findPeaks() {
            peaks = 0;
            for (int cell = 0; cell < CELLS; cell++) {
                if (isTouched(cell) && isSummit(cell)) {
                    peakCells[peaks] = cell;
                    peakXs[peaks] = placeOf(cell, false);
                    peakYs[peaks] = placeOf(cell, true);
                    peaks++;
                }
            }
        }

        private boolean isSummit(int cell) {
            int x = cell % COLUMNS;
            int y = cell / COLUMNS;
            for (int row = Math.max(y - 1, 0); row <= Math.min(y + 1, ROWS - 1); row++) {
                for (int column = Math.max(x - 1, 0); column <= Math.min(x + 1, COLUMNS - 1); column++) {
                    int other = row * COLUMNS + column;
                    if (signals[other] > signals[cell] || (signals[other] == signals[cell] && other < cell)) {
                        return false;
                    }
                }
            }
            return true;
        }

        private int placeOf(int cell, boolean isY) {
            int x = cell % COLUMNS;
            int y = cell / COLUMNS;
            long weight = 0;
            long moment = 0;
            for (int row = Math.max(y - 1, 0); row <= Math.min(y + 1, ROWS - 1); row++) {
                for (int column = Math.max(x - 1, 0); column <= Math.min(x + 1, COLUMNS - 1); column++) {
                    long signal = Math.max(signals[row * COLUMNS + column], 0);
                    weight += signal;
                    moment += 16 * signal * (isY ? row : column);
                }
            }
            // a touched cell always weighs something
            return weight > 0 ? (int) ((moment + weight) / (2 * weight)) : 0;
        }

        private int humNow() {
            long sum = 0;
            int calm = 0;
            for (int cell = 0; cell < CELLS; cell++) {
                if (!isTouched(cell)) {
                    sum += Math.abs((long) signals[cell]);
                    calm++;
                }
            }
            return calm > 0 ? (int) (sum / calm) : 0;
        }

        boolean isCalm() {
            for (int cell = 0; cell < CELLS; cell++) {
                if (signals[cell] != 0) {
                    return false;
                }
            }
            return true;
        }

        int sizeOf(int peak) {
            return regions[peakCells[peak]];
        }

        boolean isPalm(int peak) {
            return sizeOf(peak) > LARGEST_FINGER;
        }

        int countPalms() {
            int palms = 0;
            for (int peak = 0; peak < peaks; peak++) {
                palms += isPalm(peak) ? 1 : 0;
            }
            return palms;
        }

        int peakAt(int cell) {
            for (int peak = 0; peak < peaks; peak++) {
                if (peakCells[peak] == cell) {
                    return peak;
                }
            }
            return NONE;
        }

        int signalOfRow(int y) {
            int sum = 0;
            for (int x = 0; x < COLUMNS; x++) {
                sum += signals[y * COLUMNS + x];
            }
            return sum;
        }

        int touchedInRow(int y) {
            int touched = 0;
            for (int x = 0; x < COLUMNS; x++) {
                touched += isTouched(y * COLUMNS + x) ? 1 : 0;
            }
            return touched;
        }

        int peaksInRow(int y) {
            int there = 0;
            for (int peak = 0; peak < peaks; peak++) {
                there += peakCells[peak] / COLUMNS == y ? 1 : 0;
            }
            return there;
        }
    }

    /**
     * The best way to match contacts with peaks. A way is weighed by one number, the smallest is the best: on top
     * how many contacts are left out, below that the sum of squares, below that contact by contact its peak. As
     * these peaks are digits of the number, the best number also tells the way.
     */
    private static final class Pairing {
        private static final int DIGIT = 6;
        private static final int NO_PEAK = 63;
        private static final int SQUARES_AT = 30;
        private static final long LEFT_OUT = 1L << 44;
        private static final long IMPOSSIBLE = 1L << 60;
        private static final int WAYS = 1 << NAMES;

        /** By the set of contacts that have a peak: the least that it weighs with the peaks seen so far. */
        private final long[] least = new long[WAYS];
        private final long[] weights = new long[NAMES];
        private long best;

        void pair(Picture picture, Contact[] contacts) {
            least[0] = 0;
            for (int set = 1; set < WAYS; set++) {
                least[set] = IMPOSSIBLE;
            }
            for (int peak = 0; peak < picture.peaks; peak++) {
                for (int name = 0; name < NAMES; name++) {
                    weights[name] = weightOf(contacts[name], name, picture, peak);
                }
                offerPeak();
            }
            best = IMPOSSIBLE;
            for (int set = 0; set < WAYS; set++) {
                best = Math.min(best, least[set] + weightOfRest(set));
            }
        }

        int peakOf(int name) {
            int peak = (int) (best >> digitOf(name)) & NO_PEAK;
            return peak == NO_PEAK ? NONE : peak;
        }

        private static int digitOf(int name) {
            return DIGIT * (NAMES - 1 - name);
        }

        private static long weightOf(Contact contact, int name, Picture picture, int peak) {
            long across = picture.peakXs[peak] - contact.latestX;
            long along = picture.peakYs[peak] - contact.latestY;
            long squares = across * across + along * along;
            if (!contact.isThere || squares > REACH) {
                return IMPOSSIBLE;
            }
            return (squares << SQUARES_AT) + ((long) peak << digitOf(name));
        }

        /** Larger sets first: those that they grow from must not have this peak yet. */
        private void offerPeak() {
            for (int set = WAYS - 1; set > 0; set--) {
                for (int name = 0; name < NAMES; name++) {
                    int smaller = set & ~(1 << name);
                    if (smaller != set && weights[name] < IMPOSSIBLE && least[smaller] < IMPOSSIBLE) {
                        least[set] = Math.min(least[set], least[smaller] + weights[name]);
                    }
                }
            }
        }

        private static long weightOfRest(int set) {
            long weight = 0;
            for (int name = 0; name < NAMES; name++) {
                if ((set & (1 << name)) == 0) {
                    weight += LEFT_OUT + ((long) NO_PEAK << digitOf(name));
                }
            }
            return weight;
        }
    }

    private static final class Contact {
        boolean isThere;
        boolean isMatched;
        int latestX;
        int latestY;
        int frames;
        int misses;
        int claim;
        int area;
        float x;
        float y;
        float dx;
        float dy;
        float moved;
        private float firstX;
        private float firstY;
        /** By the name of another contact: how far both were apart as the later one began. */
        final float[] firstApart = new float[NAMES];

        void beginAt(int placeX, int placeY, int areaThere) {
            isThere = true;
            isMatched = false;
            latestX = placeX;
            latestY = placeY;
            frames = 1;
            misses = 0;
            claim = NOTHING;
            area = areaThere;
            x = placeX;
            y = placeY;
            dx = 0;
            dy = 0;
            moved = 0;
            firstX = placeX;
            firstY = placeY;
        }

        void moveTo(int placeX, int placeY, int dial) {
            isMatched = true;
            latestX = placeX;
            latestY = placeY;
            frames++;
            misses = 0;
            float quarter = dial / 4f;
            dx = (placeX - x) * quarter;
            dy = (placeY - y) * quarter;
            x += dx;
            y += dy;
            float movedNow = withoutSign(x - firstX) + withoutSign(y - firstY);
            moved = movedNow > moved ? movedNow : moved;
        }

        void miss() {
            isMatched = false;
            misses++;
            dx = 0;
            dy = 0;
        }

        float distanceTo(Contact other) {
            return withoutSign(x - other.x) + withoutSign(y - other.y);
        }

        float guessAt(int ahead, boolean isY) {
            float guessed = isY ? y + dy * ahead : x + dx * ahead;
            float most = isY ? MOST_Y : MOST_X;
            if (guessed < 0) {
                return 0;
            }
            return guessed > most ? most : guessed;
        }

        boolean canClaim() {
            return isThere && isMatched && claim == NOTHING;
        }
    }

    private static final class Area {
        int left;
        int right;
        int top;
        int bottom;
        final int[] counts = new int[KINDS];

        boolean holds(int x, int y) {
            return x >= left && x <= right && y >= top && y <= bottom;
        }
    }

    private static final class Areas {
        private final Area[] all = new Area[MOST_AREAS];
        int told;

        Areas() {
            for (int area = 0; area < MOST_AREAS; area++) {
                all[area] = new Area();
            }
        }

        int tell(int left, int right, int top, int bottom) {
            if (told >= MOST_AREAS) {
                return NONE;
            }
            Area area = all[told];
            area.left = left;
            area.right = right;
            area.top = top;
            area.bottom = bottom;
            told++;
            return told - 1;
        }

        int latestAt(int cell) {
            for (int area = told - 1; area >= 0; area--) {
                if (all[area].holds(cell % COLUMNS, cell / COLUMNS)) {
                    return area;
                }
            }
            return NONE;
        }

        int countOf(int area, int kind) {
            return area >= 0 && area < told && kind >= 0 && kind < KINDS ? all[area].counts[kind] : 0;
        }

        /** A contact outside all areas is counted nowhere. */
        void count(int area, int kind, int more) {
            if (area >= 0 && area < told && kind >= 0 && kind < KINDS) {
                all[area].counts[kind] += more;
            }
        }
    }

    /** The contacts by their names, and what becomes of them in a frame. */
    private static final class Hand {
        final Contact[] contacts = new Contact[NAMES];
        private final Areas areas;
        int began;
        int lifted;
        int cancelled;

        Hand(Areas areas) {
            this.areas = areas;
            for (int name = 0; name < NAMES; name++) {
                contacts[name] = new Contact();
            }
        }

        boolean has(int name) {
            return name >= 0 && name < NAMES && contacts[name].isThere;
        }

        int countContacts() {
            int there = 0;
            for (int name = 0; name < NAMES; name++) {
                there += contacts[name].isThere ? 1 : 0;
            }
            return there;
        }

        int contactsIn(int area) {
            int there = 0;
            for (int name = 0; name < NAMES; name++) {
                there += contacts[name].isThere && contacts[name].area == area ? 1 : 0;
            }
            return there;
        }

        void take(Picture picture, Pairing pairing, int dial) {
            followMatched(picture, pairing, dial);
            missUnmatched(pairing);
            beginUnmatched(picture, pairing);
            claimPinches();
            claimAlone();
        }

        void cancelAll() {
            for (int name = 0; name < NAMES; name++) {
                if (contacts[name].isThere) {
                    cancel(contacts[name]);
                }
            }
        }

        private void cancel(Contact contact) {
            contact.isThere = false;
            cancelled++;
            if (contact.claim != NOTHING) {
                areas.count(contact.area, contact.claim, -1);
            }
        }

        private void followMatched(Picture picture, Pairing pairing, int dial) {
            for (int name = 0; name < NAMES; name++) {
                int peak = pairing.peakOf(name);
                if (peak < 0 || peak >= picture.peaks || !contacts[name].isThere) {
                    continue;
                }
                if (picture.isPalm(peak)) {
                    cancel(contacts[name]);
                } else {
                    contacts[name].moveTo(picture.peakXs[peak], picture.peakYs[peak], dial);
                }
            }
        }

        private void missUnmatched(Pairing pairing) {
            for (int name = 0; name < NAMES; name++) {
                Contact contact = contacts[name];
                if (contact.isThere && pairing.peakOf(name) == NONE) {
                    contact.miss();
                    if (contact.misses >= LIFTING_MISSES) {
                        lift(contact);
                    }
                }
            }
        }

        private void lift(Contact contact) {
            contact.isThere = false;
            lifted++;
            if (contact.claim == NOTHING && contact.frames <= MOST_TAP_FRAMES) {
                areas.count(contact.area, TAP, 1);
            }
        }

        private void beginUnmatched(Picture picture, Pairing pairing) {
            for (int peak = 0; peak < picture.peaks; peak++) {
                int name = freeName();
                if (name != NONE && !picture.isPalm(peak) && !isMatchedBy(pairing, peak)) {
                    int area = areas.latestAt(picture.peakCells[peak]);
                    contacts[name].beginAt(picture.peakXs[peak], picture.peakYs[peak], area);
                    began++;
                    rememberApart(name);
                }
            }
        }

        private int freeName() {
            for (int name = 0; name < NAMES; name++) {
                if (!contacts[name].isThere) {
                    return name;
                }
            }
            return NONE;
        }

        private static boolean isMatchedBy(Pairing pairing, int peak) {
            for (int name = 0; name < NAMES; name++) {
                if (pairing.peakOf(name) == peak) {
                    return true;
                }
            }
            return false;
        }

        private void rememberApart(int name) {
            for (int other = 0; other < NAMES; other++) {
                if (contacts[other].isThere) {
                    float apart = contacts[name].distanceTo(contacts[other]);
                    contacts[name].firstApart[other] = apart;
                    contacts[other].firstApart[name] = apart;
                }
            }
        }

        private void claimPinches() {
            for (int name = 0; name < NAMES; name++) {
                for (int other = name + 1; other < NAMES; other++) {
                    if (contacts[name].canClaim() && contacts[other].canClaim() && isPinch(name, other)) {
                        claim(contacts[name], PINCH);
                        claim(contacts[other], PINCH);
                    }
                }
            }
        }

        private boolean isPinch(int name, int other) {
            float now = contacts[name].distanceTo(contacts[other]);
            return withoutSign(now - contacts[name].firstApart[other]) > PINCH_CHANGE;
        }

        private void claimAlone() {
            for (int name = 0; name < NAMES; name++) {
                Contact contact = contacts[name];
                if (contact.canClaim() && contact.moved > PAN_MOVED) {
                    claim(contact, PAN);
                } else if (contact.canClaim() && contact.frames >= HOLD_FRAMES) {
                    claim(contact, HOLD);
                }
            }
        }

        private void claim(Contact contact, int kind) {
            contact.claim = kind;
            areas.count(contact.area, kind, 1);
        }
    }
}
