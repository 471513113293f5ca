/** Promises 28 to 31: which rod it is, by what was seen. */
public final class WhichRodTest {
    private static final Check check = new Check();
    private static final int BAD = BoneRods.BAD, NONE = BoneRods.NONE;

    public static void main(String[] args) {
        refused();
        digits();
        kinds();
        test();
        other();
        check.end("WhichRodTest");
    }

    private static void allFind(BoneRods x, int r, int finding) {
        check.due("digits(0, " + r + ")", x.digits(0, r), BoneRods.FINDING);
        check.due("finding()", x.finding(), finding);
        check.due("kinds(0, " + r + ")", x.kinds(0, r), BoneRods.FINDING);
        check.due("finding()", x.finding(), finding);
        check.due("test(0, " + r + ")", x.test(0, r), BoneRods.FINDING);
        check.due("finding()", x.finding(), finding);
        check.due("other(" + r + ")", x.other(r), BoneRods.FINDING);
        check.due("finding()", x.finding(), finding);
    }

    private static void refused() {
        BoneRods none = new BoneRods();
        check.due("digits without RODS", none.digits(0, 0), BAD);
        check.due("kinds without RODS", none.kinds(0, 0), BAD);
        check.due("test without RODS", none.test(0, 0), BAD);
        check.due("other without RODS", none.other(0), BoneRods.FINDING);
        none.row(0, 0);
        check.due("other of an empty FRAME", none.other(0), NONE);
        BoneRods x = Check.withBox("r40w73");
        for (int r : new int[] {-1, 6}) {
            check.due("digits(0, " + r + ")", x.digits(0, r), BAD);
            check.due("kinds(0, " + r + ")", x.kinds(0, r), BAD);
            check.due("test(0, " + r + ")", x.test(0, r), BAD);
            check.due("other(" + r + ")", x.other(r), BAD);
        }
        for (int i : new int[] {-1, 2}) {
            check.due("digits(" + i + ", 0): BAD ahead of NOTHING", x.digits(i, 0), BAD);
            check.due("kinds(" + i + ", 0)", x.kinds(i, 0), BAD);
            check.due("test(" + i + ", 0)", x.test(i, 0), BAD);
        }
        allFind(x, 0, 1);
        Check.fill(x, 0, 99);
        allFind(x, 0, 5);
        Check.fill(x, 0, 1, 4, 99);
        allFind(x, 0, 5);
        int[][] unlike = {{0, 4}, {10, 4}, {1, -1}, {1, 1000000000}, {1, 4, 0, 4}, {1, 4, 9, -5}};
        for (int[] pairs : unlike) {
            Check.fill(x, 0, pairs);
            allFind(x, 0, 3);
        }
        check.due("findings(1)", x.findings(1), 4);
        check.due("findings(5)", x.findings(5), 8);
        check.due("findings(3)", x.findings(3), 24);
        Check.fill(x, 0, 1, 0);
        check.due("0 is a number", x.digits(0, 0), 1);
        Check.fill(x, 0, 1, 999999999);
        check.due("999999999 is a number", x.digits(0, 0), 0);
    }

    private static void digits() {
        BoneRods x = Check.withBox("r45w75t25s65b75d65");
        x.row(0, 0);
        check.due("digits by nothing seen", x.digits(3, 0), 1023);
        Check.fill(x, 0, 5, 5);
        check.due("a ROD", x.digits(0, 0), 1 << 1);
        check.due("a WORN one", x.digits(1, 0), 1 << 1 | 1 << 3 | 1 << 5 | 1 << 7 | 1 << 9);
        check.due("a TURNED one", x.digits(2, 0), 1 << 8);
        check.due("a SLID one", x.digits(3, 0), 0);
        check.due("a BENT one", x.digits(4, 0), 1 << 1 | 1 << 3 | 1 << 5 | 1 << 7 | 1 << 9);
        check.due("a DOUBLED one", x.digits(5, 0), 1 << 1);
        Check.fill(x, 0, 5, 5, 1, 7);
        check.due("a WORN one by two", x.digits(1, 0), 1 << 7);
        check.due("a ROD by two", x.digits(0, 0), 0);
        x.over(1);
        check.due("a WORN one that is OVER: as it lies now", x.digits(1, 0), 1 << 7);
        Check.fill(x, 0, 4, 8);
        check.due("a DOUBLED one below its MARK", x.digits(5, 0), 1 << 7);
        Check.fill(x, 0, 9, 6, 8, 12);
        check.due("a SLID one goes round", x.digits(3, 0), 0);
        Check.fill(x, 0, 9, 6, 8, 54);
        check.due("a SLID one goes round", x.digits(3, 0), 1 << 6);
    }

    private static void kinds() {
        BoneRods x = Check.withBox("r74w40");
        x.row(0, 0);
        check.due("kinds by nothing seen", x.kinds(0, 0), 63);
        Check.fill(x, 0, 4, 8);
        check.due("line 4: without tens, or turned", x.kinds(0, 0), 1 << 1 | 1 << 2 | 1 << 4);
        Check.fill(x, 0, 4, 28);
        check.due("line 4: a ROD, or doubled", x.kinds(0, 0), 1 | 1 << 5);
        Check.fill(x, 0, 4, 28, 3, 6);
        check.due("line 4, 3: doubled", x.kinds(0, 0), 1 << 5);
        Check.fill(x, 0, 9, 7);
        check.due("line 9: slid", x.kinds(0, 0), 1 << 3);
        Check.fill(x, 0, 6, 2);
        check.due("line 6: bent", x.kinds(0, 0), 1 << 4);
        Check.fill(x, 0, 6, 3);
        check.due("line 6: none", x.kinds(0, 0), 0);
        x.over(0);
        Check.fill(x, 0, 1, 2);
        check.due("OVER: DIGIT now", x.kinds(0, 0), 1 | 1 << 1 | 1 << 4);
    }

    private static void looks(BoneRods x, int i, int line, int part) {
        check.due("test(" + i + ", 0)", x.test(i, 0), line);
        check.due("test(" + i + ", 0): asked()", x.asked(), part);
    }

    private static void test() {
        BoneRods x = Check.withBox("r74r00r90");
        x.row(0, 0);
        // of MARK 4: LINE 1 shows 7 7 2 14 7 2; LINE 4 shows 28 8 8 35 8 28; LINE 6 shows 42 42 12 49 2 42
        looks(x, 0, 1, 3);
        Check.fill(x, 0, 4, 8);
        // worn, turned, bent: LINE 1 shows 7 2 7, LINE 6 shows 42 12 2
        looks(x, 0, 6, 1);
        Check.fill(x, 0, 4, 28);
        looks(x, 0, 1, 1);
        Check.fill(x, 0, 6, 3);
        x.rod(0, 2);
        check.due("test: no KIND", x.test(0, 0), NONE);
        check.due("asked() after NONE", x.asked(), 4);
        x.row(0, 0);
        // MARK 0, DIGIT 0: all but the turned one show 0 in every LINE
        looks(x, 1, 1, 5);
        // MARK 0, DIGIT 9: LINE 1 shows 9 9 0 18 9 9; no LINE is better
        looks(x, 2, 1, 4);
        Check.fill(x, 0, 1, 9, 2, 18, 3, 27);
        looks(x, 2, 1, 4);
    }

    private static void others(BoneRods x, int ways, int first) {
        check.due("other(0)", x.other(0), ways);
        check.due("other(0): asked()", x.asked(), first);
    }

    private static void other() {
        BoneRods x = Check.withBox("r40w75s30t20");
        x.laid(0);
        x.laid(1);
        x.row(0, 0);
        others(x, 18, 0);
        Check.fill(x, 0, 1, 47);
        check.due("another DIGIT, not its own", x.other(0), NONE);
        Check.fill(x, 0, 1, 57);
        others(x, 1, 5);
        Check.fill(x, 0, 1, 42);
        others(x, 1, 12);
        Check.fill(x, 0, 5, 201);
        x.rod(1, 2);
        check.due("by no DIGIT", x.other(0), NONE);
        check.due("asked() after NONE", x.asked(), 5);
        Check.fill(x, 0, 5, 205);
        others(x, 4, 11);
        Check.fill(x, 0, 5, 205, 1, 49);
        others(x, 1, 19);
        x.over(0);
        Check.fill(x, 0, 1, 47);
        others(x, 1, 4);
        x.laid(3);
        Check.fill(x, 0, 1, 570);
        others(x, 1, 29);
        check.due("count(2): nothing is changed", x.count(2), 4);
        BoneRods carry = Check.withBox("r10r50");
        carry.laid(0);
        carry.laid(1);
        Check.fill(carry, 0, 9, 225);
        others(carry, 1, 2);
        Check.fill(carry, 0, 9, 135, 8, 121);
        check.due("two LINES that do not agree", carry.other(0), NONE);
    }
}
