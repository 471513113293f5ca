/** The boundary cases of promises 25 to 27. */
public final class EdgesOfFramesTest {
    private static final Script.Book book = new Script.Book();

    public static void main(String[] args) {
        makes();
        most();
        near();
        book.end("EdgesOfFramesTest", 25, 27);
    }

    private static void makes() {
        book.edge(25, "BAD: v below 0, above 99999999", """
                box [r10r20]
                fill 0: 7
                makes(-1, 1, 0) = BAD
                makes(100000000, 1, 0) = BAD
                makes(MIN, 1, 0) = BAD
                makes(MAX, 1, 0) = BAD
                row 0 is 7
                """);
        book.edge(25, "BAD: a LINE, a ROW that there is not", """
                box [r10r20]
                makes(1, 0, 0) = BAD
                makes(1, 10, 0) = BAD
                makes(1, MIN, 0) = BAD
                makes(1, MAX, 0) = BAD
                makes(1, 1, -1) = BAD
                makes(1, 1, 6) = BAD
                makes(1, 1, MIN) = BAD
                makes(1, 1, MAX) = BAD
                """);
        book.edge(25, "STATE: no RODS; behind BAD", """
                fill 0: 7
                makes(0, 1, 0) = STATE
                makes(99999999, 9, 5) = STATE
                makes(-1, 1, 0) = BAD
                makes(100000000, 1, 0) = BAD
                makes(0, 0, 0) = BAD
                makes(0, 1, 6) = BAD
                row 0 is 7
                """);
        book.edge(25, "0 is READ OFF by none, though a ROD SHOWS 0: an empty ROW", """
                box [r00r10]
                fill 0: 7 8
                makes(0, 9, 0) = 0
                row 0 is
                count(6) = 1
                """);
        book.edge(25, "NONE: by no frame; a ROW stays, and stays missing", """
                box [r10r20]
                fill 0: 7 8
                makes(3, 1, 0) = NONE
                makes(11, 1, 0) = NONE
                makes(99999999, 1, 0) = NONE
                makes(99999999, 1, 1) = NONE
                row 0 is 7 8
                tear(1) = NOTHING
                """);
        book.edge(25, "NONE: just beside what is READ OFF", """
                box [r90r90r90r90r90r90r90]
                makes(89999990, 9, 0) = NONE
                makes(89999992, 9, 0) = NONE
                makes(80, 9, 0) = NONE
                makes(82, 9, 0) = NONE
                """);
        book.edge(25, "by all seven", """
                box [r90r90r90r90r90r90r90]
                makes(89999991, 9, 5) = 7
                row 5 is 0 1 2 3 4 5 6
                """);
        book.edge(25, "by all seven, the last of all orders", """
                box [r10r20r30r40r50r60r70]
                makes(7654321, 1, 0) = 7
                row 0 is 6 5 4 3 2 1 0
                makes(1234567, 1, 0) = 7
                row 0 is 0 1 2 3 4 5 6
                """);
        book.edge(25, "by all seven, noughts behind the first", """
                box [r90r00r00r00r00r00r00]
                makes(9000000, 1, 0) = 7
                row 0 is 0 1 2 3 4 5 6
                makes(8999999, 1, 0) = NONE
                makes(9000001, 1, 0) = NONE
                """);
        book.edge(25, "a ROW anew: of 40 places, of none, missing", """
                box [r10r20]
                row(0, 40)
                row(1, 0)
                makes(2, 1, 0) = 1
                row 0 is 1
                makes(21, 1, 1) = 2
                row 1 is 1 0
                makes(12, 1, 2) = 2
                row 2 is 0 1
                count(6) = 3
                """);
        book.edge(25, "of like few the first, rising", """
                box [r20r10r20r10]
                makes(2, 1, 0) = 1
                row 0 is 0
                makes(12, 1, 0) = 2
                row 0 is 1 0
                makes(21, 1, 0) = 2
                row 0 is 0 1
                makes(22, 1, 0) = 2
                row 0 is 0 2
                makes(212, 1, 0) = 3
                row 0 is 0 1 2
                """);
        book.edge(25, "the fewest: one that SHOWS 10, though two read it off first", """
                box [r10r00r50]
                makes(10, 2, 0) = 1
                row 0 is 2
                makes(20, 2, 0) = 2
                row 0 is 0 1
                """);
        book.edge(25, "noughts at the left are not needed, those at the right are", """
                box [r00r50r00]
                makes(5, 1, 0) = 1
                row 0 is 1
                makes(50, 1, 0) = 2
                row 0 is 1 0
                makes(500, 1, 0) = 3
                row 0 is 1 0 2
                makes(5000, 1, 0) = NONE
                """);
        book.edge(25, "as they are: OVER; aside: nothing is LAID, those in THE FRAME serve, too", """
                box [r10t20]
                laid(0)
                over(0)
                makes(8, 1, 0) = 1
                row 0 is 0
                makes(1, 1, 0) = NONE
                makes(78, 1, 0) = 2
                row 0 is 1 0
                count(1) = 1
                count(2) = 2
                """);
    }

    private static void most() {
        book.edge(26, "BAD: k below 1, above 5", """
                box [r10r20r30r40r50r60r70]
                fill 0: 7
                most(0, 1, 0) = BAD
                most(-1, 1, 0) = BAD
                most(6, 1, 0) = BAD
                most(7, 1, 0) = BAD
                most(MIN, 1, 0) = BAD
                most(MAX, 1, 0) = BAD
                row 0 is 7
                """);
        book.edge(26, "BAD: k above how many there are", """
                box [r10r20]
                most(3, 1, 0) = BAD
                most(5, 1, 0) = BAD
                most(2, 1, 0) = 21
                box [r10r20r30r40]
                most(5, 1, 0) = BAD
                most(4, 1, 0) = 4321
                """);
        book.edge(26, "BAD: a LINE, a ROW that there is not", """
                box [r10r20]
                most(1, 0, 0) = BAD
                most(1, 10, 0) = BAD
                most(1, MIN, 0) = BAD
                most(1, MAX, 0) = BAD
                most(1, 1, -1) = BAD
                most(1, 1, 6) = BAD
                most(1, 1, MIN) = BAD
                most(1, 1, MAX) = BAD
                """);
        book.edge(26, "STATE: no RODS, ahead of all of k", """
                fill 0: 7
                most(1, 1, 0) = STATE
                most(0, 1, 0) = STATE
                most(-1, 1, 0) = STATE
                most(6, 1, 0) = STATE
                most(MAX, 1, 0) = STATE
                row 0 is 7
                """);
        book.edge(26, "BAD of LINE and ROW ahead of STATE", """
                most(1, 0, 0) = BAD
                most(1, 10, 0) = BAD
                most(1, 1, -1) = BAD
                most(0, 1, 6) = BAD
                """);
        book.edge(26, "k 1 and k 5, of five and of seven", """
                box [r10r20r30r40r50]
                most(1, 9, 0) = 45
                row 0 is 4
                most(5, 1, 0) = 54321
                row 0 is 4 3 2 1 0
                box [r10r20r30r40r50r60r70]
                most(5, 1, 5) = 76543
                row 5 is 6 5 4 3 2
                """);
        book.edge(26, "the first, rising, of those alike", """
                box [r50r50r50]
                most(1, 1, 0) = 5
                row 0 is 0
                most(3, 1, 0) = 555
                row 0 is 0 1 2
                box [r10r90r90]
                most(2, 1, 0) = 99
                row 0 is 1 2
                """);
        book.edge(26, "0 is the most: noughts alone", """
                box [r00r00]
                most(2, 9, 0) = 0
                row 0 is 0 1
                """);
        book.edge(26, "nines by LINE 9", """
                box [r90r90r90r90r90r90r90]
                most(5, 9, 0) = 899991
                row 0 is 0 1 2 3 4
                """);
        book.edge(26, "a ROW anew: of 40 places, missing", """
                box [r10r20]
                row(0, 40)
                most(1, 1, 0) = 2
                row 0 is 1
                most(2, 1, 3) = 21
                row 3 is 1 0
                """);
        book.edge(26, "as they are: OVER; aside: nothing is LAID, those in THE FRAME serve, too", """
                box [r10r20]
                laid(0)
                over(0)
                most(2, 1, 0) = 82
                row 0 is 0 1
                count(1) = 1
                count(2) = 2
                """);
    }

    private static void near() {
        book.edge(27, "BAD: v below 0, above 9999", """
                box [r10r20]
                near(-1, 1) = BAD
                near(10000, 1) = BAD
                near(MIN, 1) = BAD
                near(MAX, 1) = BAD
                """);
        book.edge(27, "BAD: a LINE that there is not", """
                box [r10r20]
                near(1, 0) = BAD
                near(1, 10) = BAD
                near(1, MIN) = BAD
                near(1, MAX) = BAD
                """);
        book.edge(27, "STATE: no RODS; behind BAD", """
                near(0, 1) = STATE
                near(9999, 9) = STATE
                near(-1, 1) = BAD
                near(10000, 1) = BAD
                near(0, 0) = BAD
                near(0, 10) = BAD
                """);
        book.edge(27, "of 2, if there are but 2; the figure of ROD 0 at the left", """
                box [r10r20]
                near(12, 1) = 0 asked 1
                near(21, 1) = 0 asked 10
                near(0, 1) = 12 asked 1
                near(9999, 1) = 9978 asked 10
                """);
        book.edge(27, "of 3, if there are 3", """
                box [r10r20r30]
                near(123, 1) = 0 asked 12
                near(0, 1) = 123 asked 12
                near(9999, 1) = 9678 asked 210
                near(12, 1) = 111 asked 12
                """);
        book.edge(27, "of 3 of seven", """
                box [r00r10r20r30r40r50r60]
                near(0, 1) = 12 asked 12
                near(654, 1) = 0 asked 654
                near(9999, 1) = 9345 asked 654
                """);
        book.edge(27, "the first of those alike; of one below and one above", """
                box [r10r30]
                near(22, 1) = 9 asked 1
                box [r30r10]
                near(22, 1) = 9 asked 1
                box [r50r50r50r50]
                near(555, 1) = 0 asked 12
                """);
        book.edge(27, "by LINE 9, from below and from above", """
                box [r90r90r90]
                near(9999, 9) = 1008 asked 12
                near(0, 9) = 8991 asked 12
                near(8991, 9) = 0 asked 12
                near(8990, 9) = 1 asked 12
                near(8992, 9) = 1 asked 12
                """);
        book.edge(27, "as they are: OVER; aside: nothing is LAID, those in THE FRAME serve, too", """
                box [r10r20]
                laid(0)
                over(0)
                near(82, 1) = 0 asked 1
                near(28, 1) = 0 asked 10
                count(1) = 1
                count(2) = 2
                """);
    }
}
