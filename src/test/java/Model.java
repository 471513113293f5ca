import java.math.BigInteger;
import java.util.ArrayList;
import java.util.Arrays;
import java.util.List;
import java.util.regex.Matcher;
import java.util.regex.Pattern;

/**
 * The document told once more, as slowly and plainly as can be: DEEDS are played anew from the first one at each
 * look, frames are all listed, chances are summed over all that may fall out. RandomRunsTest sets it beside BoneRods.
 */
final class Model {
    private static final Pattern BOX = Pattern.compile(" *(?:[rwtsbd][0-9][0-9] *){2,7}");
    private static final String LETTERS = "rwtsbd";

    private final int[][] rows = new int[6][];
    private final byte[][] texts = new byte[4][];
    private final List<int[]> rods = new ArrayList<>();
    private List<int[]> deeds = new ArrayList<>();
    private final List<List<int[]>> kept = new ArrayList<>(Arrays.asList(null, null, null));
    private int asked = 0;
    private BigInteger upper = BigInteger.ZERO;
    private BigInteger lower = BigInteger.ONE;
    private final List<Integer> found = new ArrayList<>();

    private int find(int f) {
        found.add(f);
        return -3;
    }

    private static boolean within(int v, int from, int to) {
        return from <= v && v <= to;
    }

    int row(int r, int n) {
        if (!within(r, 0, 5) || n > 40) return -1;
        if (n < 0) return find(5);
        rows[r] = new int[n];
        return n;
    }

    int lay(int r, int i, int v) {
        int answer = at(r, i);
        if (answer == 1) rows[r][i] = v;
        return answer;
    }

    int at(int r, int i) {
        if (!within(r, 0, 5)) return -1;
        if (rows[r] == null) return find(1);
        if (!within(i, 0, rows[r].length - 1)) return find(2);
        asked = rows[r][i];
        return 1;
    }

    int tear(int r) {
        if (!within(r, 0, 5)) return -1;
        if (rows[r] == null) return find(1);
        rows[r] = null;
        return 1;
    }

    int copy(int r, int i, int to, int j, int n) {
        if (!within(r, 0, 5) || !within(to, 0, 5)) return -1;
        if (n < 0) return find(5);
        if (rows[r] == null || rows[to] == null) return find(1);
        long fromEnd = (long) i + n;
        long toEnd = (long) j + n;
        if (i < 0 || j < 0 || fromEnd > rows[r].length || toEnd > rows[to].length) return find(2);
        int[] taken = Arrays.copyOfRange(rows[r], i, i + n);
        for (int k = 0; k < n; k++) rows[to][j + k] = taken[k];
        return 1;
    }

    int mean(int r) {
        if (!within(r, 0, 5)) return -1;
        if (rows[r] == null) return find(1);
        if (rows[r].length == 0) return find(4);
        BigInteger sum = BigInteger.ZERO;
        for (int v : rows[r]) sum = sum.add(BigInteger.valueOf(v));
        asked = sum.divide(BigInteger.valueOf(rows[r].length)).intValueExact();
        return 1;
    }

    int text(int t, int n) {
        if (!within(t, 0, 3) || n > 60) return -1;
        if (n < 0) return find(5);
        texts[t] = new byte[n];
        Arrays.fill(texts[t], (byte) ' ');
        return n;
    }

    int put(int t, int i, int v) {
        if (!within(t, 0, 3)) return -1;
        if (texts[t] == null) return find(1);
        if (!within(i, 0, texts[t].length - 1)) return find(2);
        int was = texts[t][i];
        texts[t][i] = (byte) v;
        return 1000 + was;
    }

    private String signs(int t) {
        StringBuilder all = new StringBuilder();
        for (byte b : texts[t]) all.append((char) (b & 255));
        return all.toString();
    }

    int fault(int t) {
        if (!within(t, 0, 3)) return -1;
        if (texts[t] == null) return find(1);
        String signs = signs(t);
        for (int end = 1; end <= signs.length(); end++) {
            Matcher start = BOX.matcher(signs.substring(0, end));
            if (!start.matches() && !start.hitEnd()) return end - 1;
        }
        return BOX.matcher(signs).matches() ? -9 : signs.length();
    }

    int box(int t) {
        if (!within(t, 0, 3)) return -1;
        if (texts[t] == null) return find(1);
        if (!BOX.matcher(signs(t)).matches()) return -4;
        String close = signs(t).replace(" ", "");
        rods.clear();
        for (int i = 0; i < close.length(); i += 3) {
            rods.add(new int[] {LETTERS.indexOf(close.charAt(i)), close.charAt(i + 1) - '0', close.charAt(i + 2) - '0'});
        }
        deeds = new ArrayList<>();
        for (int k = 0; k < 3; k++) kept.set(k, null);
        return rods.size();
    }

    // ---- the frame, played anew

    private List<Integer> frame() {
        List<Integer> frame = new ArrayList<>();
        for (int[] deed : deeds) {
            if (deed[0] == 'l') frame.add(deed[1]);
            if (deed[0] == 'u') frame.remove(frame.size() - 1);
            if (deed[0] == 'c') {
                int a = frame.get(deed[1]);
                frame.set(deed[1], frame.get(deed[2]));
                frame.set(deed[2], a);
            }
        }
        return frame;
    }

    private boolean isOver(int i) {
        return deeds.stream().filter(d -> d[0] == 'o' && d[1] == i).count() % 2 == 1;
    }

    private int digit(int i) {
        return isOver(i) ? 9 - rods.get(i)[1] : rods.get(i)[1];
    }

    private static int show(int kind, int d, int m, int n) {
        switch (kind) {
            case 0: return d * n;
            case 1: return n == m ? d * n % 10 : d * n;
            case 2: return (9 - d) * n;
            case 3: return d * (n % 9 + 1);
            case 4: return n == m || n + m > 9 ? d * n % 10 : d * n;
            case 5: return n < m ? (9 - d) * n : d * n;
            default: throw new IllegalStateException();
        }
    }

    private int show(int i, int n) {
        return show(rods.get(i)[0], digit(i), rods.get(i)[2], n);
    }

    private int read(List<Integer> frame, int n) {
        int sum = 0;
        int worth = 1;
        for (int p = frame.size() - 1; p >= 0; p--) {
            sum += worth * show(frame.get(p), n);
            worth *= 10;
        }
        return sum;
    }

    private int right(int n) {
        StringBuilder figures = new StringBuilder("0");
        for (int i : frame()) figures.append(digit(i));
        return n * Integer.parseInt(figures.toString());
    }

    // ---- calls

    private int ofRod(int i, int what) {
        switch (what) {
            case 0: return rods.get(i)[0];
            case 1: return digit(i);
            case 2: return rods.get(i)[2];
            case 3: return frame().contains(i) ? frame().indexOf(i) : -9;
            default: return isOver(i) ? 1 : 0;
        }
    }

    private boolean isRod(int i) {
        return within(i, 0, rods.size() - 1);
    }

    int rod(int i, int what) {
        if (!isRod(i) || !within(what, 0, 4)) return -1;
        asked = ofRod(i, what);
        return 1;
    }

    int mark(int i, int kind) {
        if (!isRod(i) || !within(kind, 1, 5)) return -1;
        int own = rods.get(i)[0];
        int parent = own == 4 ? 1 : own == 5 ? 2 : own;
        if (kind != own && kind != parent) return find(3);
        int m = rods.get(i)[2];
        if (kind == 3) return m == 0 ? 500 : 500 + show(i, m) - digit(i) * m;
        int lines = 0;
        for (int n = 1; n <= 9; n++) {
            int mine = show(i, n);
            int plain = digit(i) * n;
            if (kind == 1 && mine < plain) lines++;
            if (kind == 2 && mine > plain) lines++;
            if (kind == 4 && mine < show(1, digit(i), m, n)) lines++;
            if (kind == 5 && mine != show(2, digit(i), m, n)) lines++;
        }
        return lines;
    }

    int shows(int i, int n) {
        return isRod(i) && within(n, 1, 9) ? show(i, n) : -1;
    }

    int laid(int i) {
        if (!isRod(i)) return -1;
        if (frame().contains(i)) return -4;
        if (deeds.size() == 40) return -2;
        deeds.add(new int[] {'l', i});
        return frame().size();
    }

    int lift() {
        List<Integer> frame = frame();
        if (frame.isEmpty()) return -4;
        if (deeds.size() == 40) return -2;
        deeds.add(new int[] {'u'});
        return frame.get(frame.size() - 1);
    }

    int change(int a, int b) {
        int size = frame().size();
        if (a == b || !within(a, 0, size - 1) || !within(b, 0, size - 1)) return -1;
        if (deeds.size() == 40) return -2;
        deeds.add(new int[] {'c', a, b});
        return frame().get(a);
    }

    int over(int i) {
        if (!isRod(i)) return -1;
        if (deeds.size() == 40) return -2;
        deeds.add(new int[] {'o', i});
        return digit(i);
    }

    int undo(int n) {
        if (!within(n, 0, deeds.size())) return -1;
        int undone = deeds.size() - n;
        deeds = new ArrayList<>(deeds.subList(0, n));
        return undone;
    }

    int keep(int k) {
        if (!within(k, 0, 2)) return -1;
        if (rods.isEmpty()) return -4;
        kept.set(k, new ArrayList<>(deeds));
        return deeds.size();
    }

    int on(int k) {
        if (!within(k, 0, 2)) return -1;
        if (kept.get(k) == null) return find(1);
        deeds = new ArrayList<>(kept.get(k));
        return deeds.size();
    }

    int reads(int n) {
        if (!within(n, 1, 9)) return -1;
        asked = right(n);
        return read(frame(), n);
    }

    int wrong() {
        int bits = 0;
        for (int n = 1; n <= 9; n++) if (read(frame(), n) != right(n)) bits += 1 << n;
        return bits;
    }

    int carries(int n) {
        if (!within(n, 1, 9)) return -1;
        List<Integer> frame = frame();
        int times = 0;
        asked = 0;
        // what is carried from a place is all that is READ OFF from there on, less the places' own figures
        int worth = 10;
        for (int p = frame.size() - 1; p >= 0; p--) {
            int carried = read(frame.subList(p, frame.size()), n) / worth;
            if (carried > 0) times++;
            asked = Math.max(asked, carried);
            worth *= 10;
        }
        return times;
    }

    private List<List<Integer>> frames(int k) {
        List<List<Integer>> all = new ArrayList<>();
        if (k == 0) {
            all.add(new ArrayList<>());
            return all;
        }
        for (List<Integer> start : frames(k - 1)) {
            for (int i = 0; i < rods.size(); i++) {
                if (!start.contains(i)) {
                    List<Integer> longer = new ArrayList<>(start);
                    longer.add(i);
                    all.add(longer);
                }
            }
        }
        return all;
    }

    private int readFast(List<Integer> frame, int[] shown) {
        int read = 0;
        for (int i : frame) read = read * 10 + shown[i];
        return read;
    }

    private int[] shown(int n) {
        int[] shown = new int[rods.size()];
        for (int i = 0; i < shown.length; i++) shown[i] = show(i, n);
        return shown;
    }

    int makes(int v, int n, int r) {
        if (!within(v, 0, 99999999) || !within(n, 1, 9) || !within(r, 0, 5)) return -1;
        if (rods.isEmpty()) return -4;
        for (int k = 0; k <= rods.size(); k++) {
            for (List<Integer> frame : frames(k)) {
                if (readFast(frame, shown(n)) == v) {
                    rows[r] = frame.stream().mapToInt(i -> i).toArray();
                    return k;
                }
            }
        }
        return -9;
    }

    int most(int k, int n, int r) {
        if (!within(n, 1, 9) || !within(r, 0, 5)) return -1;
        if (rods.isEmpty()) return -4;
        if (!within(k, 1, Math.min(5, rods.size()))) return -1;
        int most = -1;
        for (List<Integer> frame : frames(k)) {
            if (readFast(frame, shown(n)) > most) {
                most = readFast(frame, shown(n));
                rows[r] = frame.stream().mapToInt(i -> i).toArray();
            }
        }
        return most;
    }

    int near(int v, int n) {
        if (!within(v, 0, 9999) || !within(n, 1, 9)) return -1;
        if (rods.isEmpty()) return -4;
        int least = Integer.MAX_VALUE;
        for (List<Integer> frame : frames(Math.min(3, rods.size()))) {
            int off = Math.abs(readFast(frame, shown(n)) - v);
            if (off < least) {
                least = off;
                asked = 0;
                for (int i : frame) asked = asked * 10 + i;
            }
        }
        return least;
    }

    private int pairs(int r) {
        if (rows[r] == null) return 1;
        if (rows[r].length % 2 == 1) return 5;
        for (int i = 0; i < rows[r].length; i += 2) {
            if (!within(rows[r][i], 1, 9) || !within(rows[r][i + 1], 0, 999999999)) return 3;
        }
        return 0;
    }

    private boolean fits(int kind, int d, int m, int r) {
        for (int i = 0; i < rows[r].length; i += 2) {
            if (show(kind, d, m, rows[r][i]) != rows[r][i + 1]) return false;
        }
        return true;
    }

    int digits(int i, int r) {
        if (!isRod(i) || !within(r, 0, 5)) return -1;
        if (pairs(r) != 0) return find(pairs(r));
        int bits = 0;
        for (int d = 0; d <= 9; d++) if (fits(rods.get(i)[0], d, rods.get(i)[2], r)) bits += 1 << d;
        return bits;
    }

    int kinds(int i, int r) {
        if (!isRod(i) || !within(r, 0, 5)) return -1;
        if (pairs(r) != 0) return find(pairs(r));
        int bits = 0;
        for (int kind = 0; kind <= 5; kind++) if (fits(kind, digit(i), rods.get(i)[2], r)) bits += 1 << kind;
        return bits;
    }

    int test(int i, int r) {
        int bits = kinds(i, r);
        if (bits < 0) return bits;
        if (bits == 0) return -9;
        int line = 0;
        int least = 7;
        for (int n = 1; n <= 9; n++) {
            int[] parts = new int[100];
            for (int kind = 0; kind <= 5; kind++) {
                if ((bits & 1 << kind) != 0) parts[show(kind, digit(i), rods.get(i)[2], n)]++;
            }
            int part = Arrays.stream(parts).max().getAsInt();
            if (part < least) {
                least = part;
                line = n;
            }
        }
        asked = least;
        return line;
    }

    int other(int r) {
        if (!within(r, 0, 5)) return -1;
        if (pairs(r) != 0) return find(pairs(r));
        List<Integer> frame = frame();
        List<Integer> ways = new ArrayList<>();
        for (int p = 0; p < frame.size(); p++) {
            int i = frame.get(p);
            int worth = (int) Math.round(Math.pow(10, frame.size() - 1 - p));
            for (int d = 0; d <= 9; d++) {
                boolean fits = d != digit(i);
                for (int k = 0; k < rows[r].length; k += 2) {
                    int n = rows[r][k];
                    int by = show(rods.get(i)[0], d, rods.get(i)[2], n) - show(i, n);
                    fits &= read(frame, n) + by * worth == rows[r][k + 1];
                }
                if (fits) ways.add(10 * p + d);
            }
        }
        if (ways.isEmpty()) return -9;
        asked = ways.get(0);
        return ways.size();
    }

    private int play(List<Integer> frame, int turns, boolean much, int[] shown) {
        if (turns == 0 || frame.size() == rods.size()) return readFast(frame, shown);
        List<Integer> ends = new ArrayList<>();
        for (int i = 0; i < rods.size(); i++) {
            if (!frame.contains(i)) {
                List<Integer> longer = new ArrayList<>(frame);
                longer.add(i);
                ends.add(play(longer, turns - 1, !much, shown));
            }
        }
        return much ? ends.stream().max(Integer::compare).get() : ends.stream().min(Integer::compare).get();
    }

    int duel(int n, int k) {
        if (!within(n, 0, 5) || !within(k, 1, 9)) return -1;
        return rods.isEmpty() ? -4 : play(frame(), n, true, shown(k));
    }

    private void tell(long up, long low) {
        BigInteger a = BigInteger.valueOf(up);
        BigInteger b = BigInteger.valueOf(low);
        upper = a.divide(a.gcd(b));
        lower = b.divide(a.gcd(b));
    }

    /** Sums over all that may fall out: how likely times one, if it is enough, or times what is READ OFF. */
    private long sum(int n, int p, boolean mean) {
        List<Integer> frame = frame();
        int[] shown = shown(n);
        int right = right(n);
        long sum = 0;
        for (int out = 0; out < 1 << frame.size(); out++) {
            long weight = 1;
            int read = 0;
            for (int k = 0; k < frame.size(); k++) {
                boolean fell = (out & 1 << k) != 0;
                weight *= fell ? p : 12 - p;
                read = read * 10 + (fell ? 0 : shown[frame.get(k)]);
            }
            sum += mean ? weight * read : read * 2L >= right ? weight : 0;
        }
        return sum;
    }

    int odds(int n, int p) {
        if (!within(n, 1, 9) || !within(p, 0, 12)) return -1;
        if (rods.isEmpty()) return -4;
        tell(sum(n, p, false), (long) Math.pow(12, frame().size()));
        return 1;
    }

    int mid(int n, int p) {
        if (!within(n, 1, 9) || !within(p, 0, 12)) return -1;
        if (rods.isEmpty()) return -4;
        tell(sum(n, p, true), (long) Math.pow(12, frame().size()));
        return 1;
    }

    int lots(int n, int seed) {
        if (!within(n, 1, 20) || !within(seed, 1, 2147483646)) return -1;
        if (rods.isEmpty()) return -4;
        if (deeds.size() + n > 40) return -2;
        for (int d = 1; d <= n; d++) {
            BigInteger modulus = BigInteger.valueOf(2147483647);
            BigInteger power = BigInteger.valueOf(48271).modPow(BigInteger.valueOf(d), modulus);
            int lot = power.multiply(BigInteger.valueOf(seed)).mod(modulus).intValueExact();
            int i = lot / 8 % rods.size();
            int way = lot % 4;
            int[] deed = {'n'};
            if (way <= 1 && !frame().contains(i)) deed = new int[] {'l', i};
            if (way == 2 && !frame().isEmpty()) deed = new int[] {'u'};
            if (way == 3) deed = new int[] {'o', i};
            deeds.add(deed);
        }
        return read(frame(), 1);
    }

    int asked() {
        return asked;
    }

    long upper() {
        return upper.longValueExact();
    }

    long lower() {
        return lower.longValueExact();
    }

    int count(int what) {
        List<Integer> frame = frame();
        int count = 0;
        switch (what) {
            case 0: return rods.size();
            case 1: return frame.size();
            case 2: return deeds.size();
            case 3: return read(frame, 1);
            case 4: for (int i : frame) count += 1 << i; return count;
            case 5: for (int i = 0; i < rods.size(); i++) count += isOver(i) ? 1 << i : 0; return count;
            case 6: for (int[] row : rows) count += row == null ? 0 : 1; return count;
            case 7: for (byte[] text : texts) count += text == null ? 0 : 1; return count;
            case 8: for (List<int[]> k : kept) count += k == null ? 0 : 1; return count;
            case 9: for (int[] rod : rods) count += rod[0] == 1 || rod[0] == 4 ? 1 : 0; return count;
            case 10: for (int[] rod : rods) count += rod[0] == 2 || rod[0] == 5 ? 1 : 0; return count;
            default: return -1;
        }
    }

    int finding() {
        return found.isEmpty() ? 0 : found.get(found.size() - 1);
    }

    int findings(int f) {
        return within(f, 1, 5) ? (int) found.stream().filter(g -> g == f).count() : -1;
    }

    long digest() {
        List<Long> all = new ArrayList<>();
        for (int what = 0; what <= 10; what++) all.add((long) count(what));
        for (int i = 0; i < rods.size(); i++) for (int what = 0; what <= 4; what++) all.add((long) ofRod(i, what));
        for (List<int[]> k : kept) all.add(k == null ? -1L : k.size());
        for (int[] row : rows) {
            all.add(row == null ? -1L : row.length);
            if (row != null) for (int v : row) all.add((long) v);
        }
        for (byte[] text : texts) {
            all.add(text == null ? -1L : text.length);
            if (text != null) for (byte v : text) all.add((long) v);
        }
        long h = 17;
        for (long v : all) h = 31 * h + v;
        return h;
    }
}
