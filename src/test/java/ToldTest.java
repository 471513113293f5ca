/** Promises 36 to 42, but for upper() and lower(), which DuelChancesTest has. */
public final class ToldTest {
    private static final Check check = new Check();
    private static final int BAD = BoneRods.BAD;

    public static void main(String[] args) {
        asked();
        upperAndLower();
        count();
        findings();
        digest();
        check.end("ToldTest");
    }

    /** Calls that tell nothing by asked() leave it as it was. */
    private static void asked() {
        BoneRods x = Check.withBox("r50w73t20");
        x.keep(0);
        Check.fill(x, 0, 4, 20);
        x.rod(1, 1);
        check.due("rod(1, 1): asked()", x.asked(), 7);
        x.row(1, 2);
        x.copy(0, 0, 1, 0, 2);
        x.tear(1);
        x.text(1, 3);
        x.put(1, 0, 9);
        x.fault(1);
        x.mark(1, 1);
        x.shows(0, 3);
        x.laid(0);
        x.lift();
        x.over(0);
        x.undo(0);
        x.on(0);
        x.wrong();
        x.makes(5, 1, 2);
        x.most(1, 1, 2);
        x.digits(0, 0);
        x.kinds(0, 0);
        x.other(0);
        x.duel(2, 2);
        x.odds(1, 1);
        x.mid(1, 1);
        x.lots(2, 2);
        x.count(0);
        x.finding();
        x.findings(1);
        x.digest();
        x.reads(0);
        x.carries(10);
        x.near(-1, 1);
        x.at(5, 0);
        x.lay(0, 2, 1);
        x.mean(4);
        x.test(9, 0);
        x.box(0);
        check.due("asked() after calls that tell nothing", x.asked(), 7);
    }

    private static void upperAndLower() {
        BoneRods x = Check.withBox("r50w73");
        x.laid(0);
        x.mid(1, 1);
        x.odds(0, 1);
        x.mid(1, 13);
        x.reads(1);
        check.due("upper()", x.upper(), 55);
        check.due("lower()", x.lower(), 12);
        x.box(0);
        check.due("upper() after box()", x.upper(), 55);
    }

    private static void counts(BoneRods x, int... want) {
        for (int what = 0; what < want.length; what++) {
            check.due("count(" + what + ")", x.count(what), want[what]);
        }
    }

    private static void count() {
        BoneRods x = Check.withBox("r10w20t30s40b50d60w70");
        counts(x, 7, 0, 0, 0, 0, 0, 0, 1, 0, 3, 2);
        x.laid(3);
        x.laid(0);
        x.over(0);
        x.over(6);
        x.keep(1);
        x.row(0, 1);
        x.row(5, 0);
        x.text(3, 0);
        counts(x, 7, 2, 4, 88, 9, 65, 2, 2, 1, 3, 2);
        for (int what : new int[] {-1, 11, Integer.MIN_VALUE, Integer.MAX_VALUE}) {
            check.due("count(" + what + ")", x.count(what), BAD);
        }
    }

    private static void findings() {
        BoneRods x = new BoneRods();
        check.due("finding() before any", x.finding(), 0);
        x.row(0, -1);
        check.due("finding()", x.finding(), 5);
        x.row(0, 0);
        check.due("finding() stays when nothing is refused", x.finding(), 5);
        x.mean(0);
        check.due("finding()", x.finding(), 4);
        x.at(0, 0);
        check.due("finding()", x.finding(), 2);
        x.at(0, 1);
        x.at(1, 0);
        check.due("finding()", x.finding(), 1);
        x.row(0, 99);
        check.due("finding() stays by BAD", x.finding(), 1);
        int[] want = {1, 2, 0, 1, 1};
        for (int f = 1; f <= 5; f++) {
            check.due("findings(" + f + ")", x.findings(f), want[f - 1]);
        }
        for (int f : new int[] {0, 6, -1, Integer.MAX_VALUE}) {
            check.due("findings(" + f + ")", x.findings(f), BAD);
        }
    }

    private static long hashed(long... all) {
        long h = 17;
        for (long v : all) {
            h = 31 * h + v;
        }
        return h;
    }

    private static void digest() {
        BoneRods x = new BoneRods();
        check.due("digest() of a new one", x.digest(), hashed(0, 0, 0, 0, 0, 0, 0, 0, 0, 0, 0,
                -1, -1, -1, -1, -1, -1, -1, -1, -1, -1, -1, -1, -1));
        Check.write(x, 2, "b93r12");
        x.put(2, 0, 200);
        x.put(2, 0, 'b');
        x.box(2);
        x.put(2, 0, 200);
        x.laid(1);
        x.over(1);
        x.over(0);
        x.keep(1);
        x.lift();
        Check.fill(x, 4, -7, 8);
        x.row(5, 0);
        x.rod(0, 2);
        check.due("digest()", x.digest(), hashed(2, 0, 4, 0, 0, 3, 2, 1, 1, 1, 0,
                4, 0, 3, -9, 1, 0, 8, 2, -9, 1,
                -1, 3, -1,
                -1, -1, -1, -1, 2, -7, 8, 0,
                -1, -1, 6, -56, '9', '3', 'r', '1', '2', -1));
        check.due("asked() after digest()", x.asked(), 3);
    }
}
