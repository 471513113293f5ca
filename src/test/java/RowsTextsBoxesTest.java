/** Promises 1 to 14. */
public final class RowsTextsBoxesTest {
    private static final Check check = new Check();
    private static final int MIN = Integer.MIN_VALUE, MAX = Integer.MAX_VALUE;

    public static void main(String[] args) {
        newObject();
        row();
        layAndAt();
        tear();
        copy();
        mean();
        textAndPut();
        fault();
        box();
        rod();
        mark();
        shows();
        check.end("RowsTextsBoxesTest");
    }

    private static void refused(BoneRods x, String call, int got, int finding) {
        check.due(call, got, BoneRods.FINDING);
        check.due(call + ": finding()", x.finding(), finding);
    }

    private static void newObject() {
        BoneRods x = new BoneRods();
        for (int what = 0; what <= 10; what++) {
            check.due("new: count(" + what + ")", x.count(what), 0);
        }
        check.due("new: asked()", x.asked(), 0);
        check.due("new: upper()", x.upper(), 0);
        check.due("new: lower()", x.lower(), 1);
        check.due("new: finding()", x.finding(), 0);
        for (int f = 1; f <= 5; f++) {
            check.due("new: findings(" + f + ")", x.findings(f), 0);
        }
        for (int r = 0; r < 6; r++) {
            refused(x, "new: at(" + r + ", 0)", x.at(r, 0), 1);
        }
        for (int t = 0; t < 4; t++) {
            refused(x, "new: fault(" + t + ")", x.fault(t), 1);
        }
        for (int k = 0; k < 3; k++) {
            refused(x, "new: on(" + k + ")", x.on(k), 1);
        }
    }

    private static void row() {
        BoneRods x = new BoneRods();
        check.due("row(0, 40)", x.row(0, 40), 40);
        check.due("row(5, 0)", x.row(5, 0), 0);
        check.due("count(6)", x.count(6), 2);
        check.due("row(0, 41)", x.row(0, 41), BoneRods.BAD);
        check.due("row(6, 1)", x.row(6, 1), BoneRods.BAD);
        check.due("row(-1, 1)", x.row(-1, 1), BoneRods.BAD);
        check.due("row(6, -1): BAD ahead of SIZE", x.row(6, -1), BoneRods.BAD);
        check.due("finding() before any", x.finding(), 0);
        refused(x, "row(0, -1)", x.row(0, -1), 5);
        refused(x, "row(0, MIN)", x.row(0, MIN), 5);
        check.due("at(0, 39) is there still", x.at(0, 39), 1);
        x.lay(0, 0, 8);
        x.lay(0, 3, 8);
        check.due("row(0, 5)", x.row(0, 5), 5);
        x.at(0, 0);
        check.due("anew: place 0", x.asked(), 0);
        x.at(0, 3);
        check.due("anew: place 3", x.asked(), 0);
        refused(x, "at(0, 5)", x.at(0, 5), 2);
    }

    private static void layAndAt() {
        BoneRods x = new BoneRods();
        check.due("lay(6, 0, 1)", x.lay(6, 0, 1), BoneRods.BAD);
        check.due("lay(-1, 0, 1)", x.lay(-1, 0, 1), BoneRods.BAD);
        check.due("at(6, 0)", x.at(6, 0), BoneRods.BAD);
        check.due("at(-1, 0)", x.at(-1, 0), BoneRods.BAD);
        refused(x, "lay(2, 0, 1)", x.lay(2, 0, 1), 1);
        refused(x, "lay(2, -1, 1): NOTHING ahead of BEYOND", x.lay(2, -1, 1), 1);
        refused(x, "at(2, 9)", x.at(2, 9), 1);
        x.row(2, 3);
        check.due("lay(2, 2, MIN)", x.lay(2, 2, MIN), 1);
        check.due("asked()", x.asked(), 0);
        check.due("lay(2, 2, 4)", x.lay(2, 2, 4), 1);
        check.due("asked()", x.asked(), MIN);
        check.due("at(2, 2)", x.at(2, 2), 1);
        check.due("asked()", x.asked(), 4);
        for (int i : new int[] {-1, 3, MIN, MAX}) {
            refused(x, "lay(2, " + i + ", 7)", x.lay(2, i, 7), 2);
            refused(x, "at(2, " + i + ")", x.at(2, i), 2);
        }
        check.due("asked() after what was refused", x.asked(), 4);
        check.due("findings(2)", x.findings(2), 8);
    }

    private static void tear() {
        BoneRods x = new BoneRods();
        check.due("tear(6)", x.tear(6), BoneRods.BAD);
        check.due("tear(-1)", x.tear(-1), BoneRods.BAD);
        refused(x, "tear(0)", x.tear(0), 1);
        x.row(0, 0);
        check.due("tear(0)", x.tear(0), 1);
        check.due("count(6)", x.count(6), 0);
        refused(x, "tear(0) once more", x.tear(0), 1);
        refused(x, "at(0, 0)", x.at(0, 0), 1);
    }

    private static void copy() {
        BoneRods x = new BoneRods();
        check.due("copy(6, 0, 0, 0, -1)", x.copy(6, 0, 0, 0, -1), BoneRods.BAD);
        check.due("copy(0, 0, 6, 0, 0)", x.copy(0, 0, 6, 0, 0), BoneRods.BAD);
        check.due("copy(-1, 0, 0, 0, 0)", x.copy(-1, 0, 0, 0, 0), BoneRods.BAD);
        check.due("copy(0, 0, -1, 0, 0)", x.copy(0, 0, -1, 0, 0), BoneRods.BAD);
        refused(x, "copy: SIZE ahead of NOTHING", x.copy(0, 0, 1, 0, -1), 5);
        Check.fill(x, 0, 1, 2, 3, 4, 5);
        refused(x, "copy to a missing one", x.copy(0, 9, 1, 0, 1), 1);
        refused(x, "copy from a missing one", x.copy(1, 9, 0, 0, 1), 1);
        x.row(1, 3);
        check.due("copy(0, 1, 1, 0, 3)", x.copy(0, 1, 1, 0, 3), 1);
        places(x, 1, 2, 3, 4);
        check.due("copy to the right within one", x.copy(0, 0, 0, 1, 4), 1);
        places(x, 0, 1, 1, 2, 3, 4);
        Check.fill(x, 0, 1, 2, 3, 4, 5);
        check.due("copy to the left within one", x.copy(0, 1, 0, 0, 4), 1);
        places(x, 0, 2, 3, 4, 5, 5);
        check.due("none, from the end", x.copy(0, 5, 1, 3, 0), 1);
        refused(x, "none, behind the end", x.copy(0, 6, 1, 0, 0), 2);
        refused(x, "none, to behind the end", x.copy(0, 0, 1, 4, 0), 2);
        refused(x, "ahead", x.copy(0, -1, 1, 0, 1), 2);
        refused(x, "to ahead", x.copy(0, 0, 1, -1, 1), 2);
        refused(x, "too many there", x.copy(0, 3, 1, 0, 3), 2);
        refused(x, "too many for it", x.copy(0, 0, 1, 1, 3), 2);
        refused(x, "copy MAX", x.copy(0, 1, 1, 1, MAX), 2);
        refused(x, "copy from MAX", x.copy(0, MAX, 1, 0, 1), 2);
        refused(x, "copy from MIN", x.copy(0, MIN, 1, 0, MAX), 2);
        places(x, 1, 2, 3, 4);
    }

    private static void places(BoneRods x, int r, int... want) {
        for (int i = 0; i < want.length; i++) {
            check.due("at(" + r + ", " + i + ")", x.at(r, i), 1);
            check.due("place " + i + " of " + r, x.asked(), want[i]);
        }
    }

    private static void mean() {
        BoneRods x = new BoneRods();
        check.due("mean(6)", x.mean(6), BoneRods.BAD);
        check.due("mean(-1)", x.mean(-1), BoneRods.BAD);
        refused(x, "mean(0)", x.mean(0), 1);
        x.row(0, 0);
        refused(x, "mean of none", x.mean(0), 4);
        means(x, 4, 3, 4, 7);
        means(x, -1, -1, -2);
        means(x, 0, -1, 0);
        means(x, MAX, MAX, MAX, MAX);
        means(x, MIN, MIN, MIN, MIN, MIN);
        means(x, 0, MAX, MIN);
    }

    private static void means(BoneRods x, int want, int... ints) {
        Check.fill(x, 0, ints);
        check.due("mean(0)", x.mean(0), 1);
        check.due("mean(0): asked()", x.asked(), want);
    }

    private static void textAndPut() {
        BoneRods x = new BoneRods();
        check.due("text(4, 1)", x.text(4, 1), BoneRods.BAD);
        check.due("text(-1, 1)", x.text(-1, 1), BoneRods.BAD);
        check.due("text(0, 61)", x.text(0, 61), BoneRods.BAD);
        check.due("text(4, -1): BAD ahead of SIZE", x.text(4, -1), BoneRods.BAD);
        refused(x, "text(0, -1)", x.text(0, -1), 5);
        refused(x, "put(0, 0, 1)", x.put(0, 0, 1), 1);
        check.due("text(0, 60)", x.text(0, 60), 60);
        check.due("text(3, 0)", x.text(3, 0), 0);
        check.due("count(7)", x.count(7), 2);
        check.due("put(4, 0, 1)", x.put(4, 0, 1), BoneRods.BAD);
        check.due("put(-1, 0, 1)", x.put(-1, 0, 1), BoneRods.BAD);
        check.due("put(0, 59, 200)", x.put(0, 59, 200), 1032);
        check.due("put(0, 59, -1)", x.put(0, 59, -1), 944);
        check.due("put(0, 59, 256)", x.put(0, 59, 256), 999);
        check.due("put(0, 59, 383)", x.put(0, 59, 383), 1000);
        check.due("put(0, 59, 128)", x.put(0, 59, 128), 1127);
        check.due("put(0, 59, 0)", x.put(0, 59, 0), 872);
        for (int i : new int[] {-1, 60, MIN, MAX}) {
            refused(x, "put(0, " + i + ", 1)", x.put(0, i, 1), 2);
        }
        refused(x, "put(3, 0, 1)", x.put(3, 0, 1), 2);
        x.text(0, 60);
        check.due("anew: put(0, 59, 0)", x.put(0, 59, 0), 1032);
    }

    private static void faults(String signs, int want) {
        check.due("fault of '" + signs + "'", Check.withText(signs).fault(0), want);
    }

    private static void fault() {
        BoneRods x = new BoneRods();
        check.due("fault(4)", x.fault(4), BoneRods.BAD);
        check.due("fault(-1)", x.fault(-1), BoneRods.BAD);
        refused(x, "fault(2)", x.fault(2), 1);
        int none = BoneRods.NONE;
        faults("r00w99", none);
        faults("  t12   s34 b56d78  ", none);
        faults("r00w11t22s33b44d55r66", none);
        faults("r00w11t22s33b44d55r66    ", none);
        faults("r00w11t22s33b44d55r66 w", 22);
        faults("r00w11t22s33b44d55r66x", 21);
        faults("", 0);
        faults("   ", 3);
        faults("r00", 3);
        faults("r00  ", 5);
        faults("r00r", 4);
        faults("r00r0", 5);
        faults("x00r00", 0);
        faults("R00r00", 0);
        faults("r 0r00", 1);
        faults("r0 r00", 2);
        faults("r00 r/0", 5);
        faults("r00 r0:", 6);
        faults("r00 r000", 7);
        faults("r00 r00\u00b2", 7);
        faults("0", 0);
        check.due("many blanks", Check.withText("r12" + " ".repeat(54) + "d98").fault(0), none);
    }

    private static void box() {
        BoneRods x = new BoneRods();
        check.due("box(4)", x.box(4), BoneRods.BAD);
        check.due("box(-1)", x.box(-1), BoneRods.BAD);
        refused(x, "box(0)", x.box(0), 1);
        Check.write(x, 1, "r12 x");
        check.due("box(1) with a FAULT", x.box(1), BoneRods.STATE);
        check.due("count(0)", x.count(0), 0);
        Check.write(x, 3, " w47 d30 b99");
        check.due("box(3)", x.box(3), 3);
        x.laid(2);
        x.over(0);
        x.keep(0);
        x.keep(2);
        check.due("box(1) with a FAULT", x.box(1), BoneRods.STATE);
        check.due("count(2) is as it was", x.count(2), 2);
        check.due("count(8) is as it was", x.count(8), 2);
        check.due("box(3) anew", x.box(3), 3);
        check.due("count(1)", x.count(1), 0);
        check.due("count(2)", x.count(2), 0);
        check.due("count(5)", x.count(5), 0);
        check.due("count(8)", x.count(8), 0);
        refused(x, "on(0): kept BOXES go", x.on(0), 1);
        Check.write(x, 3, "r12r34");
        check.due("a BOX stays when its TEXT changes", x.count(0), 3);
        check.due("box(3) of fewer", x.box(3), 2);
        check.due("laid(2) of two", x.laid(2), BoneRods.BAD);
    }

    private static void told(BoneRods x, int i, int what, int want) {
        check.due("rod(" + i + ", " + what + ")", x.rod(i, what), 1);
        check.due("rod(" + i + ", " + what + "): asked()", x.asked(), want);
    }

    private static void rod() {
        BoneRods x = new BoneRods();
        check.due("rod(0, 0) without RODS", x.rod(0, 0), BoneRods.BAD);
        x = Check.withBox("r19w28t37s46b55d64");
        for (int i = 0; i < 6; i++) {
            told(x, i, 0, i);
            told(x, i, 1, i + 1);
            told(x, i, 2, 9 - i);
            told(x, i, 3, BoneRods.NONE);
            told(x, i, 4, 0);
        }
        x.laid(4);
        x.laid(1);
        x.over(1);
        x.over(5);
        told(x, 4, 3, 0);
        told(x, 1, 3, 1);
        told(x, 1, 1, 7);
        told(x, 1, 4, 1);
        told(x, 5, 1, 3);
        told(x, 5, 3, BoneRods.NONE);
        for (int[] bad : new int[][] {{-1, 0}, {6, 0}, {0, -1}, {0, 5}, {MAX, MIN}}) {
            check.due("rod(" + bad[0] + ", " + bad[1] + ")", x.rod(bad[0], bad[1]), BoneRods.BAD);
        }
        check.due("asked() after BAD", x.asked(), BoneRods.NONE);
    }

    private static void mark() {
        BoneRods x = Check.withBox("r70w74t25s63b83d34w30");
        int[][] kinds = {{}, {1}, {2}, {3}, {1, 4}, {2, 5}, {1}};
        int[][] wants = {{}, {1}, {9}, {506}, {4, 3}, {3, 6}, {0}};
        for (int i = 0; i < 7; i++) {
            check.due("mark(" + i + ", 0)", x.mark(i, 0), BoneRods.BAD);
            check.due("mark(" + i + ", 6)", x.mark(i, 6), BoneRods.BAD);
            check.due("mark(" + i + ", -1)", x.mark(i, -1), BoneRods.BAD);
            for (int kind = 1; kind <= 5; kind++) {
                int at = indexOf(kinds[i], kind);
                int got = x.mark(i, kind);
                if (at < 0) {
                    refused(x, "mark(" + i + ", " + kind + ")", got, 3);
                } else {
                    check.due("mark(" + i + ", " + kind + ")", got, wants[i][at]);
                }
            }
        }
        check.due("mark(7, 1)", x.mark(7, 1), BoneRods.BAD);
        check.due("mark(-1, 1)", x.mark(-1, 1), BoneRods.BAD);
        x.over(1);
        check.due("mark of what is OVER: 2 times 4 has no tens", x.mark(1, 1), 0);
        x.over(2);
        check.due("mark of what is OVER: 7 turned is 2", x.mark(2, 2), 0);
        x.over(3);
        check.due("mark of a SLID one that is OVER", x.mark(3, 3), 503);
        BoneRods y = Check.withBox("s90s99d84t40d40");
        check.due("mark of a DOUBLED one that SHOWS more than a TURNED one", y.mark(2, 5), 6);
        check.due("mark of a DOUBLED one that never SHOWS more than a ROD", y.mark(2, 2), 0);
        check.due("mark of a TURNED one, 1 more at first", y.mark(3, 2), 9);
        check.due("mark of a DOUBLED one, a ROD in all LINES", y.mark(4, 5), 9);
        check.due("mark of a SLID one with MARK 0", y.mark(0, 3), 500);
        check.due("mark of a SLID one with MARK 9", y.mark(1, 3), 428);
    }

    private static int indexOf(int[] among, int kind) {
        for (int at = 0; at < among.length; at++) {
            if (among[at] == kind) {
                return at;
            }
        }
        return -1;
    }

    private static void lines(BoneRods x, int i, int... want) {
        for (int n = 1; n <= 9; n++) {
            check.due("shows(" + i + ", " + n + ")", x.shows(i, n), want[n - 1]);
        }
    }

    private static void shows() {
        BoneRods x = Check.withBox("r75w75t75s75b72d75b79");
        lines(x, 0, 7, 14, 21, 28, 35, 42, 49, 56, 63);
        lines(x, 1, 7, 14, 21, 28, 5, 42, 49, 56, 63);
        lines(x, 2, 2, 4, 6, 8, 10, 12, 14, 16, 18);
        lines(x, 3, 14, 21, 28, 35, 42, 49, 56, 63, 7);
        lines(x, 4, 7, 4, 21, 28, 35, 42, 49, 6, 3);
        lines(x, 5, 2, 4, 6, 8, 35, 42, 49, 56, 63);
        lines(x, 6, 7, 4, 1, 8, 5, 2, 9, 6, 3);
        for (int i = 0; i < 7; i++) {
            x.over(i);
        }
        lines(x, 0, 2, 4, 6, 8, 10, 12, 14, 16, 18);
        lines(x, 1, 2, 4, 6, 8, 0, 12, 14, 16, 18);
        lines(x, 2, 7, 14, 21, 28, 35, 42, 49, 56, 63);
        lines(x, 5, 7, 14, 21, 28, 10, 12, 14, 16, 18);
        BoneRods y = Check.withBox("w90b90d90t90");
        lines(y, 0, 9, 18, 27, 36, 45, 54, 63, 72, 81);
        lines(y, 1, 9, 18, 27, 36, 45, 54, 63, 72, 81);
        lines(y, 2, 9, 18, 27, 36, 45, 54, 63, 72, 81);
        lines(y, 3, 0, 0, 0, 0, 0, 0, 0, 0, 0);
        for (int[] bad : new int[][] {{-1, 1}, {7, 1}, {0, 0}, {0, 10}, {0, -1}, {MIN, MAX}}) {
            check.due("shows(" + bad[0] + ", " + bad[1] + ")", x.shows(bad[0], bad[1]), BoneRods.BAD);
        }
    }
}
