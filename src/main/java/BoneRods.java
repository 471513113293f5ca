/** Multiplying rods in a box and in a frame: see README.md, and ../shared/DOC.md for the promises. */
public final class BoneRods {
    public static final int BAD = -1, FULL = -2, FINDING = -3, STATE = -4, SPENT = -6, NONE = -9;

    private static final int NOTHING = 1, BEYOND = 2, UNLIKE = 3, NOUGHT = 4, SIZE = 5;
    private static final int ROWS = 6, ROW_PLACES = 40, TEXTS = 4, TEXT_BYTES = 60, KEPT = 3;
    private static final int RODS = 7, FEWEST_RODS = 2, LINES = 9, DEEDS = 40, KINDS = 6, DIGITS = 10;
    private static final int ROD = 0, WORN = 1, TURNED = 2, SLID = 3, BENT = 4, DOUBLED = 5;
    private static final int IDLE = 0, LAY = 1, LIFT = 2, SWAP = 3, TURN = 4;
    private static final int ROD_TOLD = 5, COUNTS = 11, MISSING = -1;
    private static final int BLANK = 32, NOUGHT_FIGURE = 48, PUT_MORE = 1000, SLID_MORE = 500;
    private static final int MAKES_TOP = 99999999, NEAR_TOP = 9999, SEEN_TOP = 999999999;
    private static final int MOST_RODS = 5, NEAR_RODS = 3, TURNS = 5, TWELFTHS = 12, LOTS = 20;
    private static final long LOT_FACTOR = 48271L, LOT_MODULUS = 2147483647L;
    private static final int[] LETTERS = {114, 119, 116, 115, 98, 100};
    private static final int[] TENS = {1, 10, 100, 1000, 10000, 100000, 1000000, 10000000};

    private final Strip[] rows;
    private final Strip[] texts;
    private final Kind[] kindOf;
    private final Rod[] rods;
    private int rodCount;
    private final Bench bench;
    private final Bench[] kept;
    private final Search search;
    private int told;
    private long upperTold;
    private long lowerTold;
    private int latestFinding;
    private final int[] findingTimes;

    public BoneRods() {
        rows = new Strip[ROWS];
        for (int r = 0; r < ROWS; r++) {
            rows[r] = new Strip();
        }
        texts = new Strip[TEXTS];
        for (int t = 0; t < TEXTS; t++) {
            texts[t] = new Strip();
        }
        kindOf = new Kind[KINDS];
        kindOf[ROD] = new Kind();
        kindOf[WORN] = new Worn();
        kindOf[TURNED] = new Turned();
        kindOf[SLID] = new Slid();
        kindOf[BENT] = new Bent();
        kindOf[DOUBLED] = new Doubled();
        rods = new Rod[RODS];
        for (int i = 0; i < RODS; i++) {
            rods[i] = new Rod(kindOf[ROD]);
        }
        bench = new Bench();
        kept = new Bench[KEPT];
        for (int k = 0; k < KEPT; k++) {
            kept[k] = new Bench();
        }
        search = new Search();
        lowerTold = 1L;
        findingTimes = new int[SIZE + 1];
    }

    // ---- 1 rows, texts, boxes

    public int row(int r, int n) {
        if (!isRow(r) || n > ROW_PLACES) {
            return BAD;
        }
        if (n < 0) {
            return found(SIZE);
        }
        rows[r].make(n, 0);
        return n;
    }

    public int lay(int r, int i, int v) {
        if (!isRow(r)) {
            return BAD;
        }
        int unfit = unfitPlace(rows[r], i);
        if (unfit != 0) {
            return found(unfit);
        }
        told = rows[r].places[i];
        rows[r].places[i] = v;
        return 1;
    }

    public int at(int r, int i) {
        if (!isRow(r)) {
            return BAD;
        }
        int unfit = unfitPlace(rows[r], i);
        if (unfit != 0) {
            return found(unfit);
        }
        told = rows[r].places[i];
        return 1;
    }

    public int tear(int r) {
        if (!isRow(r)) {
            return BAD;
        }
        if (!rows[r].isThere()) {
            return found(NOTHING);
        }
        rows[r].size = MISSING;
        return 1;
    }

    public int copy(int r, int i, int to, int j, int n) {
        if (!isRow(r) || !isRow(to)) {
            return BAD;
        }
        if (n < 0) {
            return found(SIZE);
        }
        if (!rows[r].isThere() || !rows[to].isThere()) {
            return found(NOTHING);
        }
        if (!rows[r].holds(i, n) || !rows[to].holds(j, n)) {
            return found(BEYOND);
        }
        System.arraycopy(rows[r].places, i, rows[to].places, j, n);
        return 1;
    }

    public int mean(int r) {
        if (!isRow(r)) {
            return BAD;
        }
        if (!rows[r].isThere()) {
            return found(NOTHING);
        }
        if (rows[r].size == 0) {
            return found(NOUGHT);
        }
        // forty ints may be more than an int holds
        long sum = 0L;
        for (int i = 0; i < rows[r].size; i++) {
            sum += rows[r].places[i];
        }
        told = (int) (sum / rows[r].size);
        return 1;
    }

    public int text(int t, int n) {
        if (!isText(t) || n > TEXT_BYTES) {
            return BAD;
        }
        if (n < 0) {
            return found(SIZE);
        }
        texts[t].make(n, BLANK);
        return n;
    }

    public int put(int t, int i, int v) {
        if (!isText(t)) {
            return BAD;
        }
        int unfit = unfitPlace(texts[t], i);
        if (unfit != 0) {
            return found(unfit);
        }
        int was = texts[t].places[i];
        texts[t].places[i] = (byte) v;
        return was + PUT_MORE;
    }

    public int fault(int t) {
        if (!isText(t)) {
            return BAD;
        }
        if (!texts[t].isThere()) {
            return found(NOTHING);
        }
        return firstFault(texts[t]);
    }

    public int box(int t) {
        if (!isText(t)) {
            return BAD;
        }
        if (!texts[t].isThere()) {
            return found(NOTHING);
        }
        if (firstFault(texts[t]) != NONE) {
            return STATE;
        }
        fillBox(texts[t]);
        bench.clear();
        for (int k = 0; k < KEPT; k++) {
            kept[k].there = false;
        }
        return rodCount;
    }

    public int rod(int i, int what) {
        if (!isRod(i) || what < 0 || what >= ROD_TOLD) {
            return BAD;
        }
        told = ofRod(i, what);
        return 1;
    }

    public int mark(int i, int kind) {
        if (!isRod(i) || kind <= ROD || kind >= KINDS) {
            return BAD;
        }
        if (!isOfKind(rods[i].kind, kind)) {
            return found(UNLIKE);
        }
        switch (kind) {
            case WORN:
                return linesApart(i, ROD, true, false);
            case TURNED:
                return linesApart(i, ROD, false, true);
            case SLID:
                return SLID_MORE + slidBy(i);
            case BENT:
                return linesApart(i, WORN, true, false);
            default:
                return linesApart(i, TURNED, true, true);
        }
    }

    public int shows(int i, int n) {
        if (!isRod(i) || !isLine(n)) {
            return BAD;
        }
        return shownNow(i, n);
    }

    // ---- 2 deeds

    public int laid(int i) {
        if (!isRod(i)) {
            return BAD;
        }
        if (bench.placeOf(i) != NONE) {
            return STATE;
        }
        if (bench.isFull()) {
            return FULL;
        }
        bench.act(LAY, i, 0);
        return bench.held;
    }

    public int lift() {
        if (bench.held == 0) {
            return STATE;
        }
        if (bench.isFull()) {
            return FULL;
        }
        int last = bench.lastRod();
        bench.act(LIFT, last, 0);
        return last;
    }

    public int change(int a, int b) {
        if (a == b || !bench.isTaken(a) || !bench.isTaken(b)) {
            return BAD;
        }
        if (bench.isFull()) {
            return FULL;
        }
        bench.act(SWAP, a, b);
        return bench.frame[a];
    }

    public int over(int i) {
        if (!isRod(i)) {
            return BAD;
        }
        if (bench.isFull()) {
            return FULL;
        }
        bench.act(TURN, i, 0);
        return digitNow(i);
    }

    public int undo(int n) {
        if (n < 0 || n > bench.done) {
            return BAD;
        }
        int undone = bench.done - n;
        for (int d = 0; d < undone; d++) {
            bench.takeBack();
        }
        return undone;
    }

    public int keep(int k) {
        if (!isKeepingPlace(k)) {
            return BAD;
        }
        if (rodCount == 0) {
            return STATE;
        }
        kept[k].become(bench);
        kept[k].there = true;
        return bench.done;
    }

    public int on(int k) {
        if (!isKeepingPlace(k)) {
            return BAD;
        }
        if (!kept[k].there) {
            return found(NOTHING);
        }
        bench.become(kept[k]);
        return bench.done;
    }

    // ---- 3 what is read off

    public int reads(int n) {
        if (!isLine(n)) {
            return BAD;
        }
        told = rightBy(n);
        return readOff(n);
    }

    public int wrong() {
        int lines = 0;
        for (int n = 1; n <= LINES; n++) {
            if (readOff(n) != rightBy(n)) {
                lines |= 1 << n;
            }
        }
        return lines;
    }

    public int carries(int n) {
        if (!isLine(n)) {
            return BAD;
        }
        int times = 0;
        int greatest = 0;
        int carried = 0;
        for (int p = bench.held - 1; p >= 0; p--) {
            carried = (shownNow(bench.frame[p], n) + carried) / 10;
            if (carried > 0) {
                times++;
            }
            greatest = Math.max(greatest, carried);
        }
        told = greatest;
        return times;
    }

    // ---- 4 frames

    public int makes(int v, int n, int r) {
        if (v < 0 || v > MAKES_TOP || !isLine(n) || !isRow(r)) {
            return BAD;
        }
        if (rodCount == 0) {
            return STATE;
        }
        lookAt(n);
        for (int k = 0; k <= rodCount; k++) {
            if (search.nearest(v, k, 1) == 0) {
                rows[r].take(search.best, k);
                return k;
            }
        }
        return NONE;
    }

    public int most(int k, int n, int r) {
        if (!isLine(n) || !isRow(r)) {
            return BAD;
        }
        if (rodCount == 0) {
            return STATE;
        }
        if (k < 1 || k > MOST_RODS || k > rodCount) {
            return BAD;
        }
        lookAt(n);
        // no frame reads more than this, so the one nearest to it reads most
        int read = MAKES_TOP - search.nearest(MAKES_TOP, k, MAKES_TOP + 1);
        rows[r].take(search.best, k);
        return read;
    }

    public int near(int v, int n) {
        if (v < 0 || v > NEAR_TOP || !isLine(n)) {
            return BAD;
        }
        if (rodCount == 0) {
            return STATE;
        }
        lookAt(n);
        int k = Math.min(NEAR_RODS, rodCount);
        int off = search.nearest(v, k, MAKES_TOP);
        int figures = 0;
        for (int p = 0; p < k; p++) {
            figures = 10 * figures + search.best[p];
        }
        told = figures;
        return off;
    }

    // ---- 5 which rod it is

    public int digits(int i, int r) {
        if (!isRod(i) || !isRow(r)) {
            return BAD;
        }
        int unfit = unfitPairs(rows[r]);
        if (unfit != 0) {
            return found(unfit);
        }
        int bits = 0;
        for (int d = 0; d < DIGITS; d++) {
            if (fits(rods[i].kind, d, rods[i].mark, rows[r])) {
                bits |= 1 << d;
            }
        }
        return bits;
    }

    public int kinds(int i, int r) {
        if (!isRod(i) || !isRow(r)) {
            return BAD;
        }
        int unfit = unfitPairs(rows[r]);
        if (unfit != 0) {
            return found(unfit);
        }
        return fittingKinds(i, rows[r]);
    }

    public int test(int i, int r) {
        if (!isRod(i) || !isRow(r)) {
            return BAD;
        }
        int unfit = unfitPairs(rows[r]);
        if (unfit != 0) {
            return found(unfit);
        }
        int bits = fittingKinds(i, rows[r]);
        if (bits == 0) {
            return NONE;
        }
        int line = 1;
        int least = greatestPart(i, bits, 1);
        for (int n = 2; n <= LINES; n++) {
            int part = greatestPart(i, bits, n);
            if (part < least) {
                least = part;
                line = n;
            }
        }
        told = least;
        return line;
    }

    public int other(int r) {
        if (!isRow(r)) {
            return BAD;
        }
        int unfit = unfitPairs(rows[r]);
        if (unfit != 0) {
            return found(unfit);
        }
        int ways = 0;
        int first = 0;
        for (int p = 0; p < bench.held; p++) {
            for (int d = 0; d < DIGITS; d++) {
                if (d != digitNow(bench.frame[p]) && wasReadWith(p, d, rows[r])) {
                    if (ways == 0) {
                        first = 10 * p + d;
                    }
                    ways++;
                }
            }
        }
        if (ways == 0) {
            return NONE;
        }
        told = first;
        return ways;
    }

    // ---- 6 by turns

    public int duel(int n, int k) {
        if (n < 0 || n > TURNS || !isLine(k)) {
            return BAD;
        }
        if (rodCount == 0) {
            return STATE;
        }
        lookAt(k);
        return search.playedOut(n, bench.bits(), readOff(k), true);
    }

    // ---- 7 chances, lots

    public int odds(int n, int p) {
        if (!isLine(n) || !isTwelfths(p)) {
            return BAD;
        }
        if (rodCount == 0) {
            return STATE;
        }
        int right = rightBy(n);
        long enough = 0L;
        for (int left = 0; left < 1 << bench.held; left++) {
            if (2 * readOfLeft(n, left) >= right) {
                enough += weightOfLeft(left, p);
            }
        }
        long all = 1L;
        for (int i = 0; i < bench.held; i++) {
            all *= TWELFTHS;
        }
        tell(enough, all);
        return 1;
    }

    public int mid(int n, int p) {
        if (!isLine(n) || !isTwelfths(p)) {
            return BAD;
        }
        if (rodCount == 0) {
            return STATE;
        }
        // each place keeps the same part of what it SHOWS in the mean, so the whole does
        tell((long) readOff(n) * (TWELFTHS - p), TWELFTHS);
        return 1;
    }

    public int lots(int n, int seed) {
        if (n < 1 || n > LOTS || seed < 1 || seed >= LOT_MODULUS) {
            return BAD;
        }
        if (rodCount == 0) {
            return STATE;
        }
        if (bench.done + n > DEEDS) {
            return FULL;
        }
        long lot = seed;
        for (int d = 0; d < n; d++) {
            lot = lot * LOT_FACTOR % LOT_MODULUS;
            deedByLot(lot);
        }
        return readOff(1);
    }

    // ---- 8 what is told

    public int asked() {
        return told;
    }

    public long upper() {
        return upperTold;
    }

    public long lower() {
        return lowerTold;
    }

    public int count(int what) {
        switch (what) {
            case 0:
                return rodCount;
            case 1:
                return bench.held;
            case 2:
                return bench.done;
            case 3:
                return readOff(1);
            case 4:
                return bench.bits();
            case 5:
                return bench.overs;
            case 6:
                return howManyThere(rows);
            case 7:
                return howManyThere(texts);
            case 8:
                return howManyKept();
            case 9:
                return howManyOf(WORN);
            case 10:
                return howManyOf(TURNED);
            default:
                return BAD;
        }
    }

    public int finding() {
        return latestFinding;
    }

    public int findings(int f) {
        if (f < NOTHING || f > SIZE) {
            return BAD;
        }
        return findingTimes[f];
    }

    public long digest() {
        long h = 17L;
        for (int what = 0; what < COUNTS; what++) {
            h = 31L * h + count(what);
        }
        for (int i = 0; i < rodCount; i++) {
            for (int what = 0; what < ROD_TOLD; what++) {
                h = 31L * h + ofRod(i, what);
            }
        }
        for (int k = 0; k < KEPT; k++) {
            h = 31L * h + (kept[k].there ? kept[k].done : MISSING);
        }
        return withStrips(withStrips(h, rows), texts);
    }

    // ---- what is refused

    private static boolean isRow(int r) {
        return r >= 0 && r < ROWS;
    }

    private static boolean isText(int t) {
        return t >= 0 && t < TEXTS;
    }

    private static boolean isKeepingPlace(int k) {
        return k >= 0 && k < KEPT;
    }

    private static boolean isLine(int n) {
        return n >= 1 && n <= LINES;
    }

    private static boolean isTwelfths(int p) {
        return p >= 0 && p <= TWELFTHS;
    }

    private boolean isRod(int i) {
        return i >= 0 && i < rodCount;
    }

    private int found(int f) {
        latestFinding = f;
        findingTimes[f]++;
        return FINDING;
    }

    /** The FINDING by which a place is refused; 0: it is there. */
    private static int unfitPlace(Strip strip, int i) {
        if (!strip.isThere()) {
            return NOTHING;
        }
        return strip.holds(i, 1) ? 0 : BEYOND;
    }

    /** The FINDING by which a ROW of pairs is refused; 0: it is as told. */
    private static int unfitPairs(Strip strip) {
        if (!strip.isThere()) {
            return NOTHING;
        }
        if (strip.size % 2 != 0) {
            return SIZE;
        }
        for (int i = 0; i + 1 < strip.size; i += 2) {
            int seen = strip.places[i + 1];
            if (!isLine(strip.places[i]) || seen < 0 || seen > SEEN_TOP) {
                return UNLIKE;
            }
        }
        return 0;
    }

    // ---- the language of boxes

    private static int kindByLetter(int letter) {
        for (int kind = 0; kind < KINDS; kind++) {
            if (LETTERS[kind] == letter) {
                return kind;
            }
        }
        return NONE;
    }

    private static boolean isFigure(int sign) {
        return sign >= NOUGHT_FIGURE && sign < NOUGHT_FIGURE + DIGITS;
    }

    private static int firstFault(Strip strip) {
        int items = 0;
        int part = 0;
        for (int i = 0; i < strip.size; i++) {
            int sign = strip.places[i];
            if (part > 0) {
                if (!isFigure(sign)) {
                    return i;
                }
                part = (part + 1) % 3;
            } else if (sign != BLANK) {
                if (items >= RODS || kindByLetter(sign) == NONE) {
                    return i;
                }
                items++;
                part = 1;
            }
        }
        return part > 0 || items < FEWEST_RODS ? strip.size : NONE;
    }

    /** Only for a TEXT without a FAULT: each item has its three signs there. */
    private void fillBox(Strip strip) {
        int items = 0;
        for (int i = 0; i + 2 < strip.size && items < RODS; i++) {
            int kind = kindByLetter(strip.places[i]);
            if (kind != NONE) {
                rods[items].kindNumber = kind;
                rods[items].kind = kindOf[kind];
                rods[items].digit = strip.places[i + 1] - NOUGHT_FIGURE;
                rods[items].mark = strip.places[i + 2] - NOUGHT_FIGURE;
                items++;
            }
        }
        rodCount = items;
    }

    // ---- of a rod

    private static boolean isOfKind(Kind own, int kind) {
        switch (kind) {
            case ROD:
                return true;
            case WORN:
                return own instanceof Worn;
            case TURNED:
                return own instanceof Turned;
            case SLID:
                return own instanceof Slid;
            case BENT:
                return own instanceof Bent;
            case DOUBLED:
                return own instanceof Doubled;
            default:
                return false;
        }
    }

    private int digitNow(int i) {
        return bench.isOver(i) ? 9 - rods[i].digit : rods[i].digit;
    }

    private int shownNow(int i, int n) {
        return rods[i].kind.shown(digitNow(i), rods[i].mark, n);
    }

    /** What a ROD would SHOW, were it of a KIND. */
    private int shownAs(int i, int kind, int n) {
        return kindOf[kind].shown(digitNow(i), rods[i].mark, n);
    }

    private int ofRod(int i, int what) {
        switch (what) {
            case 0:
                return rods[i].kindNumber;
            case 1:
                return digitNow(i);
            case 2:
                return rods[i].mark;
            case 3:
                return bench.placeOf(i);
            default:
                return bench.isOver(i) ? 1 : 0;
        }
    }

    /** LINES in which a ROD SHOWS less, more (or either) than one alike of a KIND. */
    private int linesApart(int i, int kind, boolean less, boolean more) {
        int lines = 0;
        for (int n = 1; n <= LINES; n++) {
            int by = shownNow(i, n) - shownAs(i, kind, n);
            if (less && by < 0 || more && by > 0) {
                lines++;
            }
        }
        return lines;
    }

    private int slidBy(int i) {
        int n = rods[i].mark;
        return isLine(n) ? shownNow(i, n) - shownAs(i, ROD, n) : 0;
    }

    // ---- of the frame

    private int readOff(int n) {
        return readWith(NONE, 0, n);
    }

    /** READ OFF, the ROD at one place having another DIGIT. */
    private int readWith(int place, int digit, int n) {
        int read = 0;
        for (int p = 0; p < bench.held; p++) {
            Rod there = rods[bench.frame[p]];
            int d = p == place ? digit : digitNow(bench.frame[p]);
            read = 10 * read + there.kind.shown(d, there.mark, n);
        }
        return read;
    }

    private boolean wasReadWith(int place, int digit, Strip pairs) {
        for (int i = 0; i + 1 < pairs.size; i += 2) {
            if (readWith(place, digit, pairs.places[i]) != pairs.places[i + 1]) {
                return false;
            }
        }
        return true;
    }

    private int rightBy(int n) {
        int number = 0;
        for (int p = 0; p < bench.held; p++) {
            number = 10 * number + digitNow(bench.frame[p]);
        }
        return number * n;
    }

    /** READ OFF, if only the places told by bits have not fallen out. */
    private int readOfLeft(int n, int left) {
        int read = 0;
        for (int p = 0; p < bench.held; p++) {
            read = 10 * read + ((left >> p & 1) == 1 ? shownNow(bench.frame[p], n) : 0);
        }
        return read;
    }

    private long weightOfLeft(int left, int p) {
        long weight = 1L;
        for (int place = 0; place < bench.held; place++) {
            weight *= (left >> place & 1) == 1 ? TWELFTHS - p : p;
        }
        return weight;
    }

    private void lookAt(int n) {
        search.rods = rodCount;
        for (int i = 0; i < rodCount; i++) {
            search.shown[i] = shownNow(i, n);
        }
    }

    private void deedByLot(long lot) {
        int i = (int) (lot / 8L % Math.max(1, rodCount));
        int way = (int) (lot % 4L);
        if (way == 3) {
            bench.act(TURN, i, 0);
        } else if (way == 2 && bench.held > 0) {
            bench.act(LIFT, bench.lastRod(), 0);
        } else if (way < 2 && bench.placeOf(i) == NONE) {
            bench.act(LAY, i, 0);
        } else {
            bench.act(IDLE, 0, 0);
        }
    }

    // ---- which rod it is

    private static boolean fits(Kind kind, int digit, int mark, Strip pairs) {
        for (int i = 0; i + 1 < pairs.size; i += 2) {
            if (kind.shown(digit, mark, pairs.places[i]) != pairs.places[i + 1]) {
                return false;
            }
        }
        return true;
    }

    private int fittingKinds(int i, Strip pairs) {
        int bits = 0;
        for (int kind = 0; kind < KINDS; kind++) {
            if (fits(kindOf[kind], digitNow(i), rods[i].mark, pairs)) {
                bits |= 1 << kind;
            }
        }
        return bits;
    }

    /** How many of these KINDS SHOW alike in a LINE, at most. */
    private int greatestPart(int i, int bits, int n) {
        int greatest = 0;
        for (int a = 0; a < KINDS; a++) {
            int part = 0;
            for (int b = 0; b < KINDS; b++) {
                if ((bits >> a & bits >> b & 1) == 1 && shownAs(i, a, n) == shownAs(i, b, n)) {
                    part++;
                }
            }
            greatest = Math.max(greatest, part);
        }
        return greatest;
    }

    // ---- what is told

    private void tell(long up, long low) {
        long shared = greatestShared(up, low);
        if (shared > 0L) {
            upperTold = up / shared;
            lowerTold = low / shared;
        }
    }

    private static long greatestShared(long a, long b) {
        long high = a;
        long low = b;
        // each second step halves the greater one: no long lasts so many
        for (int step = 0; step < 200 && low != 0L; step++) {
            long rest = high % low;
            high = low;
            low = rest;
        }
        return high;
    }

    private static int howManyThere(Strip[] strips) {
        int there = 0;
        for (int s = 0; s < strips.length; s++) {
            if (strips[s].isThere()) {
                there++;
            }
        }
        return there;
    }

    private int howManyKept() {
        int there = 0;
        for (int k = 0; k < KEPT; k++) {
            if (kept[k].there) {
                there++;
            }
        }
        return there;
    }

    private int howManyOf(int kind) {
        int those = 0;
        for (int i = 0; i < rodCount; i++) {
            if (isOfKind(rods[i].kind, kind)) {
                those++;
            }
        }
        return those;
    }

    private static long withStrips(long before, Strip[] strips) {
        long h = before;
        for (int s = 0; s < strips.length; s++) {
            h = 31L * h + strips[s].size;
            for (int i = 0; i < strips[s].size; i++) {
                h = 31L * h + strips[s].places[i];
            }
        }
        return h;
    }

    /** A ROW or a TEXT, made once and used again. */
    private static final class Strip {
        private final int[] places = new int[TEXT_BYTES];
        private int size = MISSING;

        boolean isThere() {
            return size != MISSING;
        }

        /** Whether n places from i on are there; i + n might wrap around. */
        boolean holds(int i, int n) {
            return i >= 0 && i <= size - n;
        }

        void make(int n, int with) {
            size = n;
            for (int i = 0; i < n && i < places.length; i++) {
                places[i] = with;
            }
        }

        void take(int[] from, int n) {
            size = Math.min(n, from.length);
            for (int i = 0; i < size; i++) {
                places[i] = from[i];
            }
        }
    }

    /** What a ROD of a KIND SHOWS; this one is the KIND that others are, too. */
    private static class Kind {
        int shown(int digit, int mark, int line) {
            return digit * line;
        }
    }

    private static class Worn extends Kind {
        int shown(int digit, int mark, int line) {
            int whole = super.shown(digit, mark, line);
            return isWithoutTens(mark, line) ? whole % 10 : whole;
        }

        boolean isWithoutTens(int mark, int line) {
            return line == mark;
        }
    }

    private static class Turned extends Kind {
        int shown(int digit, int mark, int line) {
            return super.shown(9 - digit, mark, line);
        }
    }

    private static final class Slid extends Kind {
        int shown(int digit, int mark, int line) {
            return super.shown(digit, mark, line >= LINES ? 1 : line + 1);
        }
    }

    private static final class Bent extends Worn {
        boolean isWithoutTens(int mark, int line) {
            return super.isWithoutTens(mark, line) || line > 9 - mark;
        }
    }

    private static final class Doubled extends Turned {
        int shown(int digit, int mark, int line) {
            return line >= mark ? digit * line : super.shown(digit, mark, line);
        }
    }

    /** A ROD as told at first; whether it is OVER is the Bench's, since that is kept and undone. */
    private static final class Rod {
        private Kind kind;
        private int kindNumber;
        private int digit;
        private int mark;

        Rod(Kind kind) {
            this.kind = kind;
        }
    }

    /** All that DEEDS change, with the DEEDS: what is kept and gone on from. */
    private static final class Bench {
        private final int[] frame = new int[RODS];
        private int held;
        private int overs;
        private final int[] deeds = new int[DEEDS];
        private final int[] firsts = new int[DEEDS];
        private final int[] seconds = new int[DEEDS];
        private int done;
        private boolean there;

        void clear() {
            held = 0;
            overs = 0;
            done = 0;
        }

        void become(Bench from) {
            System.arraycopy(from.frame, 0, frame, 0, RODS);
            held = from.held;
            overs = from.overs;
            System.arraycopy(from.deeds, 0, deeds, 0, DEEDS);
            System.arraycopy(from.firsts, 0, firsts, 0, DEEDS);
            System.arraycopy(from.seconds, 0, seconds, 0, DEEDS);
            done = from.done;
        }

        boolean isFull() {
            return done >= DEEDS;
        }

        boolean isOver(int rod) {
            return (overs >> rod & 1) == 1;
        }

        boolean isTaken(int place) {
            return place >= 0 && place < held;
        }

        int placeOf(int rod) {
            for (int p = 0; p < held; p++) {
                if (frame[p] == rod) {
                    return p;
                }
            }
            return NONE;
        }

        int lastRod() {
            return held > 0 ? frame[held - 1] : NONE;
        }

        int bits() {
            int bits = 0;
            for (int p = 0; p < held; p++) {
                bits |= 1 << frame[p];
            }
            return bits;
        }

        void act(int deed, int first, int second) {
            if (isFull()) {
                return;
            }
            deeds[done] = deed;
            firsts[done] = first;
            seconds[done] = second;
            done++;
            perform(deed, first, second);
        }

        void takeBack() {
            if (done <= 0) {
                return;
            }
            done--;
            perform(backOf(deeds[done]), firsts[done], seconds[done]);
        }

        private static int backOf(int deed) {
            if (deed == LAY) {
                return LIFT;
            }
            return deed == LIFT ? LAY : deed;
        }

        private void perform(int deed, int first, int second) {
            if (deed == LAY && held < frame.length) {
                frame[held] = first;
                held++;
            } else if (deed == LIFT && held > 0) {
                held--;
            } else if (deed == SWAP && isTaken(first) && isTaken(second)) {
                int moved = frame[first];
                frame[first] = frame[second];
                frame[second] = moved;
            } else if (deed == TURN) {
                overs ^= 1 << first;
            }
        }
    }

    /** Frames laid aside, of all RODS in any order, by what each SHOWS in one LINE. */
    private static final class Search {
        private final int[] shown = new int[RODS];
        private int rods;
        private final int[] chosen = new int[RODS];
        private final int[] best = new int[RODS];
        private int goal;
        private int length;
        private int gap;

        /** How far the first nearest frame of so many RODS is off the goal; within, if none is nearer. */
        int nearest(int wanted, int howMany, int within) {
            goal = wanted;
            length = Math.min(howMany, rods);
            gap = within;
            extend(0, 0, 0);
            return gap;
        }

        private void extend(int depth, int used, int read) {
            int least = leastGap(length - depth, read);
            if (least >= gap) {
                return;
            }
            if (depth >= length) {
                gap = least;
                System.arraycopy(chosen, 0, best, 0, RODS);
                return;
            }
            for (int i = 0; i < rods; i++) {
                if ((used >> i & 1) == 0) {
                    chosen[depth] = i;
                    extend(depth + 1, used | 1 << i, 10 * read + shown[i]);
                }
            }
        }

        /** Passes by what can't come nearer: no ROD SHOWS less than 0 or more than 81. */
        private int leastGap(int left, int read) {
            int tens = left >= 0 && left < TENS.length ? TENS[left] : 1;
            int low = read * tens;
            int high = low + 9 * (tens - 1);
            return Math.max(0, Math.max(low - goal, goal - high));
        }

        /** What is READ OFF in the end, if turns are left and the next one wants much, or little. */
        private int playedOut(int turns, int used, int read, boolean much) {
            int end = NONE;
            if (turns > 0) {
                for (int i = 0; i < rods; i++) {
                    if ((used >> i & 1) == 0) {
                        int then = playedOut(turns - 1, used | 1 << i, 10 * read + shown[i], !much);
                        if (end == NONE || (much ? then > end : then < end)) {
                            end = then;
                        }
                    }
                }
            }
            return end == NONE ? read : end;
        }
    }
}
