import java.lang.management.ManagementFactory;

/** All calls of one run share one small room: no call makes objects, and an object is made of little. */
public final class RoomTest {
    private static final Check check = new Check();
    private static final com.sun.management.ThreadMXBean BEAN =
            (com.sun.management.ThreadMXBean) ManagementFactory.getThreadMXBean();
    private static final long SLACK = 4096;

    public static void main(String[] args) {
        made();
        long sum = dearCalls(new BoneRods());
        long start = BEAN.getCurrentThreadAllocatedBytes();
        BoneRods x = new BoneRods();
        long between = BEAN.getCurrentThreadAllocatedBytes();
        sum += dearCalls(x);
        long end = BEAN.getCurrentThreadAllocatedBytes();
        check.that("calls make nothing, but " + (end - between) + " bytes", end - between <= SLACK);
        check.that("an object is small, but " + (between - start) + " bytes", between - start <= 16384);
        check.that("calls are answered", sum != 0);
        check.end("RoomTest");
    }

    /** The room counts objects from the first call on, so what is made at the first use counts, too. */
    private static void made() {
        BoneRods x = new BoneRods();
        long start = BEAN.getCurrentThreadAllocatedBytes();
        x.row(0, 40);
        x.text(0, 60);
        x.fault(0);
        long end = BEAN.getCurrentThreadAllocatedBytes();
        check.that("a ROW and a TEXT are there from the first on, but " + (end - start) + " bytes",
                end - start <= SLACK);
    }

    private static long dearCalls(BoneRods x) {
        Check.write(x, 0, "r91w82t73s64b55d46r37");
        long sum = x.box(0);
        for (int turn = 0; turn < 60; turn++) {
            int n = 1 + turn % 9;
            sum += x.text(1, 60) + x.row(1, 40) + x.put(1, 59, turn) + x.lay(1, 39, turn) + x.copy(1, 0, 1, 1, 39);
            sum += x.fault(0) + x.box(0) + x.lots(20, 1 + turn) + x.keep(0) + x.undo(3) + x.on(0) + x.digest();
            sum += x.makes(12345678 + turn, n, 2) + x.most(5, n, 2) + x.near(7777, n) + x.duel(5, n) + x.odds(n, 5);
            sum += x.mid(n, 5) + x.row(3, 2) + x.lay(3, 0, n) + x.lay(3, 1, 40) + x.digits(0, 3) + x.kinds(0, 3);
            sum += x.test(0, 3) + x.other(3) + x.wrong() + x.carries(n) + x.reads(n) + x.mean(1) + x.tear(1);
            sum += x.rod(0, 3) + x.mark(1, 1) + x.at(9, 9) + x.at(4, 0) + x.shows(1, n) + x.count(9);
        }
        return sum;
    }
}
