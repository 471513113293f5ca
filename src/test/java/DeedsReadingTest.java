/** Promises 15 to 24. */
public final class DeedsReadingTest {
    private static final Check check = new Check();
    private static final int BAD = BoneRods.BAD, FULL = BoneRods.FULL, STATE = BoneRods.STATE;

    public static void main(String[] args) {
        laid();
        lift();
        change();
        over();
        full();
        undo();
        keepAndOn();
        reads();
        wrong();
        carries();
        check.end("DeedsReadingTest");
    }

    private static void laid() {
        check.due("laid(0) without RODS", new BoneRods().laid(0), BAD);
        BoneRods x = Check.withBox("r10r20r30");
        check.due("laid(2)", x.laid(2), 1);
        check.due("laid(0)", x.laid(0), 2);
        check.due("laid(2) again", x.laid(2), STATE);
        check.due("laid(3)", x.laid(3), BAD);
        check.due("laid(-1)", x.laid(-1), BAD);
        check.due("reads(1): at the right end", x.reads(1), 31);
        check.due("count(2)", x.count(2), 2);
        check.due("laid(1)", x.laid(1), 3);
        check.due("count(1)", x.count(1), 3);
    }

    private static void lift() {
        check.due("lift() without RODS", new BoneRods().lift(), STATE);
        BoneRods x = Check.withBox("r10r20r30");
        check.due("lift() of none", x.lift(), STATE);
        x.laid(2);
        x.laid(0);
        check.due("lift()", x.lift(), 0);
        check.due("lift()", x.lift(), 2);
        check.due("lift() of none", x.lift(), STATE);
        check.due("count(2)", x.count(2), 4);
        check.due("laid(0) once more", x.laid(0), 1);
    }

    private static void change() {
        check.due("change(0, 1) without RODS", new BoneRods().change(0, 1), BAD);
        BoneRods x = Check.withBox("r10r20r30r40");
        x.laid(3);
        x.laid(1);
        x.laid(0);
        check.due("change(0, 2)", x.change(0, 2), 0);
        check.due("reads(1)", x.reads(1), 124);
        check.due("change(2, 1)", x.change(2, 1), 1);
        check.due("reads(1)", x.reads(1), 142);
        for (int[] bad : new int[][] {{0, 0}, {3, 0}, {0, 3}, {-1, 0}, {0, -1}, {7, 8}}) {
            check.due("change(" + bad[0] + ", " + bad[1] + ")", x.change(bad[0], bad[1]), BAD);
        }
        check.due("count(2)", x.count(2), 5);
    }

    private static void over() {
        check.due("over(0) without RODS", new BoneRods().over(0), BAD);
        BoneRods x = Check.withBox("r10t20");
        check.due("over(1) in THE BOX", x.over(1), 7);
        check.due("over(2)", x.over(2), BAD);
        check.due("over(-1)", x.over(-1), BAD);
        x.laid(1);
        check.due("reads(1): a TURNED 7", x.reads(1), 2);
        check.due("over(1) in THE FRAME", x.over(1), 2);
        check.due("reads(1): a TURNED 2", x.reads(1), 7);
        check.due("count(2)", x.count(2), 3);
        check.due("mark(1, 2): of its KIND still", x.mark(1, 2), 9);
    }

    private static void full() {
        BoneRods x = Check.withBox("r10r20r30");
        x.laid(0);
        x.laid(1);
        for (int d = 0; d < 37; d++) {
            x.over(2);
        }
        check.due("the 40th: change(0, 1)", x.change(0, 1), 1);
        check.due("count(2)", x.count(2), 40);
        check.due("laid(2) when FULL", x.laid(2), FULL);
        check.due("laid(0): STATE ahead of FULL", x.laid(0), STATE);
        check.due("laid(3): BAD ahead of FULL", x.laid(3), BAD);
        check.due("lift() when FULL", x.lift(), FULL);
        check.due("change(0, 1) when FULL", x.change(0, 1), FULL);
        check.due("change(0, 2): BAD ahead of FULL", x.change(0, 2), BAD);
        check.due("over(0) when FULL", x.over(0), FULL);
        check.due("over(3): BAD ahead of FULL", x.over(3), BAD);
        check.due("reads(1): nothing was changed", x.reads(1), 21);
        check.due("count(5): nothing was changed", x.count(5), 4);
        BoneRods y = Check.withBox("r10r20");
        for (int d = 0; d < 40; d++) {
            y.over(0);
        }
        check.due("lift(): STATE ahead of FULL", y.lift(), STATE);
    }

    private static void undo() {
        BoneRods x = new BoneRods();
        check.due("undo(0) without RODS", x.undo(0), 0);
        check.due("undo(1) without RODS", x.undo(1), BAD);
        x = Check.withBox("r10r20r30r40");
        x.laid(3);
        x.laid(1);
        x.laid(0);
        x.change(0, 2);
        x.over(1);
        x.lift();
        x.lots(3, 5);
        check.due("undo(10)", x.undo(10), BAD);
        check.due("undo(-1)", x.undo(-1), BAD);
        check.due("undo(9): none", x.undo(9), 0);
        check.due("undo(6): the LOTS", x.undo(6), 3);
        check.due("reads(1)", x.reads(1), 17);
        check.due("undo(5): LIFTED", x.undo(5), 1);
        check.due("reads(1)", x.reads(1), 174);
        check.due("undo(4): OVER", x.undo(4), 1);
        check.due("reads(1)", x.reads(1), 124);
        check.due("undo(3): changed", x.undo(3), 1);
        check.due("reads(1)", x.reads(1), 421);
        check.due("undo(1)", x.undo(1), 2);
        check.due("count(4)", x.count(4), 8);
        check.due("undo(0)", x.undo(0), 1);
        check.due("count(1)", x.count(1), 0);
        check.due("count(2)", x.count(2), 0);
    }

    private static void keepAndOn() {
        BoneRods x = new BoneRods();
        check.due("keep(0) without RODS", x.keep(0), STATE);
        check.due("keep(3)", x.keep(3), BAD);
        check.due("keep(-1)", x.keep(-1), BAD);
        check.due("on(3)", x.on(3), BAD);
        check.due("on(-1)", x.on(-1), BAD);
        check.due("on(0)", x.on(0), BoneRods.FINDING);
        check.due("finding()", x.finding(), 1);
        x = Check.withBox("r10r20r30r40");
        check.due("keep(0) of a new BOX", x.keep(0), 0);
        x.laid(1);
        x.laid(2);
        x.over(2);
        check.due("keep(2)", x.keep(2), 3);
        check.due("count(8)", x.count(8), 2);
        x.lift();
        x.laid(3);
        x.change(0, 1);
        check.due("on(2)", x.on(2), 3);
        check.due("reads(1)", x.reads(1), 26);
        check.due("count(5)", x.count(5), 4);
        check.due("undo(1): DEEDS are kept, too", x.undo(1), 2);
        check.due("reads(1)", x.reads(1), 2);
        check.due("on(2) once more", x.on(2), 3);
        check.due("reads(1)", x.reads(1), 26);
        check.due("on(0)", x.on(0), 0);
        check.due("count(1)", x.count(1), 0);
        check.due("count(5)", x.count(5), 0);
        x.laid(0);
        check.due("keep(2) anew", x.keep(2), 1);
        x.undo(0);
        check.due("on(2)", x.on(2), 1);
        check.due("reads(1)", x.reads(1), 1);
        check.due("on(1)", x.on(1), BoneRods.FINDING);
    }

    private static void read(BoneRods x, int n, int want, int right) {
        check.due("reads(" + n + ")", x.reads(n), want);
        check.due("reads(" + n + "): asked()", x.asked(), right);
    }

    private static void reads() {
        BoneRods x = new BoneRods();
        read(x, 9, 0, 0);
        x = Check.withBox("r40w73t25s69b84d36r90");
        read(x, 3, 0, 0);
        x.laid(0);
        x.laid(1);
        read(x, 3, 121, 141);
        read(x, 4, 188, 188);
        x.laid(2);
        read(x, 2, 954, 944);
        x.over(2);
        read(x, 2, 944, 954);
        for (int n : new int[] {0, 10, -1, Integer.MIN_VALUE, Integer.MAX_VALUE}) {
            check.due("reads(" + n + ")", x.reads(n), BAD);
        }
        check.due("asked() after BAD", x.asked(), 954);
        BoneRods most = Check.withBox("r90r90r90r90r90r90r90");
        for (int i = 0; i < 7; i++) {
            most.laid(i);
        }
        read(most, 9, 89999991, 89999991);
    }

    private static void wrong() {
        check.due("wrong() without RODS", new BoneRods().wrong(), 0);
        BoneRods x = Check.withBox("r40w73t25s60");
        x.laid(0);
        check.due("wrong() of a ROD", x.wrong(), 0);
        x.laid(1);
        check.due("wrong() of a WORN one", x.wrong(), 1 << 3);
        x.laid(2);
        check.due("wrong() of a TURNED one", x.wrong(), 1022);
        x.lift();
        x.over(1);
        check.due("wrong() of a WORN one that is OVER: 2 has no tens there", x.wrong(), 0);
    }

    private static void carried(BoneRods x, int n, int want, int greatest) {
        check.due("carries(" + n + ")", x.carries(n), want);
        check.due("carries(" + n + "): asked()", x.asked(), greatest);
    }

    private static void carries() {
        BoneRods x = new BoneRods();
        carried(x, 9, 0, 0);
        x = Check.withBox("r30r30r40r90");
        x.laid(0);
        x.laid(1);
        x.laid(2);
        carried(x, 2, 0, 0);
        carried(x, 3, 3, 1);
        carried(x, 4, 3, 1);
        x.laid(3);
        carried(x, 9, 4, 8);
        x.reads(1);
        carried(x, 1, 0, 0);
        for (int n : new int[] {0, 10, -1, Integer.MIN_VALUE}) {
            check.due("carries(" + n + ")", x.carries(n), BAD);
        }
        BoneRods y = Check.withBox("r30r40r50");
        y.laid(0);
        y.laid(1);
        y.laid(2);
        carried(y, 2, 1, 1);
        y.change(1, 2);
        carried(y, 2, 1, 1);
        carried(y, 6, 3, 3);
    }
}
