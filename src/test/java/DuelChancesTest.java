/** Promises 32 to 35, 37 and 38. */
public final class DuelChancesTest {
    private static final Check check = new Check();
    private static final int BAD = BoneRods.BAD, STATE = BoneRods.STATE;

    public static void main(String[] args) {
        duel();
        odds();
        mid();
        lots();
        lotsFull();
        check.end("DuelChancesTest");
    }

    private static void duel() {
        BoneRods none = new BoneRods();
        check.due("duel without RODS", none.duel(0, 1), STATE);
        check.due("duel: BAD ahead of STATE", none.duel(6, 1), BAD);
        BoneRods x = Check.withBox("r30r10r40r20");
        check.due("duel(0, 1)", x.duel(0, 1), 0);
        check.due("duel(1, 1): much", x.duel(1, 1), 4);
        check.due("duel(2, 1): little", x.duel(2, 1), 41);
        check.due("duel(3, 1)", x.duel(3, 1), 413);
        check.due("duel(4, 1)", x.duel(4, 1), 4132);
        check.due("duel(5, 1): no more are there", x.duel(5, 1), 4132);
        x.laid(2);
        check.due("duel(0, 2)", x.duel(0, 2), 8);
        check.due("duel(2, 2): from THE BOX alone", x.duel(2, 2), 862);
        x.over(1);
        check.due("duel(1, 1): as they are now", x.duel(1, 1), 48);
        check.due("count(1): nothing is changed", x.count(1), 1);
        for (int[] b : new int[][] {{-1, 1}, {6, 1}, {0, 0}, {0, 10}}) {
            check.due("duel BAD", x.duel(b[0], b[1]), BAD);
        }
        BoneRods y = Check.withBox("r90r10r00");
        check.due("duel(2, 9)", y.duel(2, 9), 810);
        check.due("duel(3, 9)", y.duel(3, 9), 8109);
    }

    private static void chance(BoneRods x, int n, int p, long upper, long lower) {
        String call = "odds(" + n + ", " + p + ")";
        check.due(call, x.odds(n, p), 1);
        check.due(call + ": upper()", x.upper(), upper);
        check.due(call + ": lower()", x.lower(), lower);
    }

    private static void odds() {
        BoneRods none = new BoneRods();
        check.due("odds without RODS", none.odds(1, 1), STATE);
        check.due("odds: BAD ahead of STATE", none.odds(1, 13), BAD);
        BoneRods x = Check.withBox("r50r50r10w93");
        chance(x, 1, 5, 1, 1);
        x.laid(0);
        chance(x, 7, 0, 1, 1);
        chance(x, 7, 12, 0, 1);
        chance(x, 7, 3, 3, 4);
        x.laid(1);
        chance(x, 1, 3, 3, 4);
        x.change(0, 1);
        x.laid(2);
        chance(x, 1, 4, 2, 3);
        // 1 9: 10 is half of 19 or more, 09 is not
        BoneRods y = Check.withBox("r10r90w93r00");
        y.laid(0);
        y.laid(1);
        chance(y, 1, 6, 1, 2);
        chance(y, 1, 1, 11, 12);
        y.over(0);
        y.over(1);
        // 8 0: the 8 is needed, the 0 is worth nothing
        chance(y, 2, 2, 5, 6);
        BoneRods half = Check.withBox("s13s12");
        half.laid(0);
        half.laid(1);
        // LINE 9 SHOWS 1 1: 11 of 99, less than half; LINE 1 SHOWS 2 2: 22 of 11
        chance(half, 9, 0, 0, 1);
        chance(half, 1, 6, 1, 2);
        BoneRods even = Check.withBox("d29r00");
        even.laid(0);
        even.laid(1);
        chance(even, 1, 3, 3, 4);
        BoneRods exact = Check.withBox("t10t60");
        exact.laid(1);
        // 6 turned SHOWS 3: just half
        chance(exact, 4, 6, 1, 2);
        for (int[] b : new int[][] {{0, 1}, {10, 1}, {1, -1}, {1, 13}}) {
            check.due("odds BAD", x.odds(b[0], b[1]), BAD);
        }
    }

    private static void meanOf(BoneRods x, int n, int p, long upper, long lower) {
        String call = "mid(" + n + ", " + p + ")";
        check.due(call, x.mid(n, p), 1);
        check.due(call + ": upper()", x.upper(), upper);
        check.due(call + ": lower()", x.lower(), lower);
    }

    private static void mid() {
        BoneRods none = new BoneRods();
        check.due("mid without RODS", none.mid(1, 1), STATE);
        check.due("mid: BAD ahead of STATE", none.mid(0, 1), BAD);
        check.due("upper() before", none.upper(), 0);
        check.due("lower() before", none.lower(), 1);
        BoneRods x = Check.withBox("r50w73");
        meanOf(x, 9, 5, 0, 1);
        x.laid(0);
        meanOf(x, 1, 0, 5, 1);
        meanOf(x, 1, 12, 0, 1);
        meanOf(x, 1, 1, 55, 12);
        x.laid(1);
        // 15 and 1 are READ OFF as 151
        meanOf(x, 3, 6, 151, 2);
        meanOf(x, 3, 4, 302, 3);
        for (int[] b : new int[][] {{0, 1}, {10, 1}, {1, -1}, {1, 13}}) {
            check.due("mid BAD", x.mid(b[0], b[1]), BAD);
        }
        check.due("upper() after BAD", x.upper(), 302);
        check.due("lower() after BAD", x.lower(), 3);
        BoneRods nines = Check.withBox("r90r90r90r90r90r90r90");
        for (int i = 0; i < 7; i++) {
            nines.laid(i);
        }
        meanOf(nines, 9, 1, 89999991L * 11 / 3, 4);
    }

    private static void lots() {
        BoneRods none = new BoneRods();
        check.due("lots without RODS", none.lots(1, 1), STATE);
        check.due("lots: BAD ahead of STATE", none.lots(0, 1), BAD);
        BoneRods x = Check.withBox("r10r20r30");
        for (int[] b : new int[][] {{0, 1}, {21, 1}, {-1, 1}, {1, 0}, {1, -1}, {1, Integer.MAX_VALUE}}) {
            check.due("lots BAD", x.lots(b[0], b[1]), BAD);
        }
        check.due("count(2)", x.count(2), 0);
        // 1: 48271 is 3 modulo 4, ROD 6033 modulo 3 is 0: turned OVER
        check.due("lots(1, 1)", x.lots(1, 1), 0);
        check.due("count(5)", x.count(5), 1);
        check.due("count(2)", x.count(2), 1);
        // 2: 96542 is 2 modulo 4: nothing to lift, a DEED all the same
        check.due("lots(1, 2)", x.lots(1, 2), 0);
        check.due("count(2)", x.count(2), 2);
        // 4: 193084 is 0 modulo 4, ROD 24135 modulo 3 is 0: LAID
        check.due("lots(1, 4)", x.lots(1, 4), 8);
        // once more: it is in THE FRAME, a DEED of nothing
        check.due("lots(1, 4)", x.lots(1, 4), 8);
        check.due("count(2)", x.count(2), 4);
        // 3: 144813 is 1 modulo 4, ROD 18101 modulo 3 is 2: LAID
        check.due("lots(1, 3)", x.lots(1, 3), 83);
        check.due("lots(1, 2): LIFTED", x.lots(1, 2), 8);
        check.due("count(2)", x.count(2), 6);
        check.due("undo(4)", x.undo(4), 2);
        check.due("reads(1)", x.reads(1), 8);
        check.due("undo(1)", x.undo(1), 3);
        // 1, then 48271 times 48271 is 2330089441, less 2147483647: 182605794, 2 modulo 4: nothing
        check.due("lots(2, 1)", x.lots(2, 1), 0);
        check.due("count(2)", x.count(2), 3);
        check.due("count(5): OVER once more is back", x.count(5), 0);
        // 2147483646 is one less than none: 2147483647 less 48271, 0 modulo 4, ROD 268429422 modulo 3 is 0
        check.due("lots(1, 2147483646)", x.lots(1, 2147483646), 1);
    }

    private static void lotsFull() {
        BoneRods x = Check.withBox("r10r20r30");
        check.due("lots(20, 7)", x.lots(20, 7) >= 0 ? 1 : 0, 1);
        x.over(0);
        check.due("lots(20, 7): 41 DEEDS", x.lots(20, 7), BoneRods.FULL);
        check.due("lots(21, 7): BAD ahead of FULL", x.lots(21, 7), BAD);
        check.due("count(2)", x.count(2), 21);
        check.due("lots(19, 7): 40 DEEDS", x.lots(19, 7) >= 0 ? 1 : 0, 1);
        check.due("count(2)", x.count(2), 40);
        check.due("lots(1, 7)", x.lots(1, 7), BoneRods.FULL);
        check.due("undo(0)", x.undo(0), 40);
        check.due("count(4)", x.count(4), 0);
        check.due("count(5)", x.count(5), 0);
    }
}
