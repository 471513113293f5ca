/** Promises 25 to 27: frames laid aside. */
public final class FramesTest {
    private static final Check check = new Check();
    private static final int BAD = BoneRods.BAD, STATE = BoneRods.STATE, NONE = BoneRods.NONE;

    public static void main(String[] args) {
        makes();
        most();
        near();
        check.end("FramesTest");
    }

    private static void rowIs(BoneRods x, int r, int... want) {
        for (int i = 0; i < want.length; i++) {
            check.due("at(" + r + ", " + i + ")", x.at(r, i), 1);
            check.due("ROD " + i, x.asked(), want[i]);
        }
        check.due("at(" + r + ", " + want.length + ")", x.at(r, want.length), BoneRods.FINDING);
        check.due("no more places", x.finding(), 2);
    }

    private static void makes() {
        BoneRods none = new BoneRods();
        check.due("makes without RODS", none.makes(0, 1, 0), STATE);
        check.due("makes: BAD ahead of STATE", none.makes(0, 1, 6), BAD);
        BoneRods x = Check.withBox("r30r10r40r10r50");
        x.laid(1);
        x.over(4);
        Check.fill(x, 2, 5, 5, 5, 5);
        check.due("makes(1, 1, 2)", x.makes(1, 1, 2), 1);
        rowIs(x, 2, 1);
        check.due("makes(3141, 1, 2)", x.makes(3141, 1, 2), 4);
        rowIs(x, 2, 0, 1, 2, 3);
        check.due("makes(414, 1, 2): as they are now", x.makes(414, 1, 2), 3);
        rowIs(x, 2, 2, 1, 4);
        check.due("makes(11, 1, 2): of like few the first", x.makes(11, 1, 2), 2);
        rowIs(x, 2, 1, 3);
        check.due("makes(111, 1, 2)", x.makes(111, 1, 2), NONE);
        rowIs(x, 2, 1, 3);
        check.due("makes(0, 9, 2): by none", x.makes(0, 9, 2), 0);
        rowIs(x, 2);
        check.due("makes(99999999, 9, 3)", x.makes(99999999, 9, 3), NONE);
        check.due("at(3, 0): NONE makes no ROW", x.at(3, 0), BoneRods.FINDING);
        check.due("finding()", x.finding(), 1);
        check.due("carried: 4 times 34", x.makes(136, 4, 0), 2);
        rowIs(x, 0, 0, 2);
        BoneRods few = Check.withBox("r10r00r90r10");
        check.due("the fewest: 9 by one", few.makes(9, 1, 0), 1);
        check.due("10 by two, the first", few.makes(10, 1, 0), 2);
        rowIs(few, 0, 0, 1);
        check.due("makes(99, 1, 0): 9 and 9 are not there", few.makes(99, 1, 0), NONE);
        check.due("makes(91, 1, 0)", few.makes(91, 1, 0), 2);
        rowIs(few, 0, 2, 0);
        BoneRods nines = Check.withBox("r90r90r90r90r90r90r90");
        check.due("makes of all seven", nines.makes(89999991, 9, 5), 7);
        rowIs(nines, 5, 0, 1, 2, 3, 4, 5, 6);
        int[][] bad = {{-1, 1, 0}, {100000000, 1, 0}, {0, 0, 0}, {0, 10, 0}, {0, 1, -1}, {0, 1, 6}};
        for (int[] b : bad) {
            check.due("makes BAD", x.makes(b[0], b[1], b[2]), BAD);
        }
        check.due("count(1): aside", x.count(1), 1);
    }

    private static void most() {
        BoneRods none = new BoneRods();
        check.due("most without RODS", none.most(1, 1, 0), STATE);
        check.due("most: STATE ahead of k", none.most(99, 1, 0), STATE);
        check.due("most: BAD LINE ahead of STATE", none.most(1, 10, 0), BAD);
        check.due("most: BAD ROW ahead of STATE", none.most(1, 1, 6), BAD);
        check.due("most: BAD ROW ahead of STATE", none.most(1, 1, -1), BAD);
        BoneRods x = Check.withBox("r30r90r40r90r50");
        x.laid(1);
        check.due("most(1, 9, 0)", x.most(1, 9, 0), 81);
        rowIs(x, 0, 1);
        check.due("most(3, 1, 0)", x.most(3, 1, 0), 995);
        rowIs(x, 0, 1, 3, 4);
        check.due("most(5, 1, 0)", x.most(5, 1, 0), 99543);
        rowIs(x, 0, 1, 3, 4, 2, 0);
        x.over(1);
        check.due("most(2, 2, 0): as they are now", x.most(2, 2, 0), 190);
        rowIs(x, 0, 3, 4);
        for (int k : new int[] {0, 6, -1, Integer.MAX_VALUE}) {
            check.due("most(" + k + ", 1, 0)", x.most(k, 1, 0), BAD);
        }
        check.due("most(1, 0, 0)", x.most(1, 0, 0), BAD);
        BoneRods two = Check.withBox("r00r00");
        check.due("most of noughts", two.most(2, 9, 0), 0);
        rowIs(two, 0, 0, 1);
        check.due("most(3, 9, 0) of two", two.most(3, 9, 0), BAD);
        BoneRods seven = Check.withBox("r90r90r90r90r90r90r90");
        check.due("most(6, 1, 0)", seven.most(6, 1, 0), BAD);
        check.due("most(5, 9, 0)", seven.most(5, 9, 0), 899991);
        rowIs(seven, 0, 0, 1, 2, 3, 4);
    }

    private static void near() {
        BoneRods none = new BoneRods();
        check.due("near without RODS", none.near(0, 1), STATE);
        check.due("near: BAD ahead of STATE", none.near(0, 0), BAD);
        BoneRods x = Check.withBox("r30r10r40r10r50");
        comes(x, 0, 1, 113, 130);
        comes(x, 9999, 1, 9999 - 543, 420);
        comes(x, 412, 1, 1, 210);
        comes(x, 413, 1, 0, 210);
        comes(x, 312, 2, 4, 142);
        x.over(2);
        comes(x, 513, 1, 0, 210);
        comes(x, 512, 1, 1, 210);
        BoneRods tie = Check.withBox("r10r30");
        comes(tie, 22, 1, 9, 1);
        comes(tie, 9999, 9, 9999 - 279, 10);
        BoneRods three = Check.withBox("r00r20r10");
        comes(three, 15, 1, 3, 21);
        for (int[] b : new int[][] {{-1, 1}, {10000, 1}, {0, 0}, {0, 10}}) {
            check.due("near BAD", x.near(b[0], b[1]), BAD);
        }
        check.due("asked() after BAD", x.asked(), 210);
    }

    private static void comes(BoneRods x, int v, int n, int off, int rods) {
        check.due("near(" + v + ", " + n + ")", x.near(v, n), off);
        check.due("near(" + v + ", " + n + "): asked()", x.asked(), rods);
    }
}
