/** The boundary cases of promises 28 to 31. */
public final class EdgesOfWhichRodTest {
    private static final Script.Book book = new Script.Book();
    private static final String[] OF_A_ROD = {"digits", "kinds", "test"};

    public static void main(String[] args) {
        for (int c = 0; c < OF_A_ROD.length; c++) {
            refusedOfARod(28 + c, OF_A_ROD[c]);
            refusedByPairs(28 + c, OF_A_ROD[c] + "(1, 0)");
        }
        refusedByPairs(31, "other(0)");
        digits();
        kinds();
        test();
        other();
        book.end("EdgesOfWhichRodTest", 28, 31);
    }

    /** The same sentences stand for digits(), kinds() and test(). */
    private static void refusedOfARod(int promise, String call) {
        book.edge(promise, call + " BAD: a ROD that there is not; ahead of NOTHING, SIZE, UNLIKE", """
                CALL(0, 0) = BAD
                box [r40w73]
                CALL(-1, 0) = BAD
                CALL(2, 0) = BAD
                CALL(MIN, 0) = BAD
                CALL(MAX, 0) = BAD
                row(0, 1)
                CALL(2, 0) = BAD
                row(0, 2)
                CALL(2, 0) = BAD
                finding() = 0
                """.replace("CALL", call));
        book.edge(promise, call + " BAD: a ROW that there is not", """
                box [r40w73]
                CALL(0, -1) = BAD
                CALL(0, 6) = BAD
                CALL(0, MIN) = BAD
                CALL(0, MAX) = BAD
                """.replace("CALL", call));
        book.edge(promise, call + " NOTHING: a ROW that is missing, the last one, too", """
                box [r40w73]
                CALL(0, 0) = NOTHING
                CALL(1, 5) = NOTHING
                """.replace("CALL", call));
    }

    private static void refusedByPairs(int promise, String call) {
        String start = "box [r40w73]\nlaid(0)\n";
        book.edge(promise, call + " NOTHING", start + call + " = NOTHING\nrow(0, 2)\ntear(0)\n" + call + " = NOTHING");
        book.edge(promise, call + " SIZE: not by pairs, ahead of UNLIKE", start + """
                row(0, 1)
                CALL = SIZE
                row(0, 39)
                CALL = SIZE
                fill 0: 1 4 99
                CALL = SIZE
                fill 0: 0 -1 1
                CALL = SIZE
                """.replace("CALL", call));
        for (String pair : new String[] {"0 4", "10 4", "-1 4", "MIN 4", "MAX 4", "4 -1", "4 1000000000", "4 MIN",
                "4 MAX", "4 28 0 0", "4 28 9 -1", "0 0 4 28"}) {
            book.edge(promise, call + " UNLIKE: " + pair, start + "fill 0: " + pair + "\n" + call + " = UNLIKE");
        }
        book.edge(promise, call + " UNLIKE: the twentieth pair alone", start + "fill 0: " + "4 28 ".repeat(19)
                + "4 1000000000\n" + call + " = UNLIKE");
        book.edge(promise, call + " UNLIKE, though an earlier pair does not fit", start + "fill 0: 4 999999999 10 4\n"
                + call + " = UNLIKE");
    }

    private static void digits() {
        book.edge(28, "nothing was seen: all ten", """
                box [r40w73]
                row(0, 0)
                digits(0, 0) = 1023
                digits(1, 0) = 1023
                """);
        book.edge(28, "DIGIT 0 and DIGIT 9: bits 0 and 9", """
                box [r40t73]
                fill 0: 9 0
                digits(0, 0) = 1
                digits(1, 0) = 512
                fill 0: 9 81
                digits(0, 0) = 512
                digits(1, 0) = 1
                """);
        book.edge(28, "none: what no ROD SHOWS, up to 999999999; two that do not agree", """
                box [r40w73]
                fill 0: 9 999999999
                digits(0, 0) = 0
                fill 0: 1 10
                digits(0, 0) = 0
                fill 0: 1 4 2 10
                digits(0, 0) = 0
                fill 0: 1 4 1 5
                digits(0, 0) = 0
                """);
        book.edge(28, "twenty pairs; the last one counts", "box [r40w73]\nfill 5: " + "1 4 ".repeat(20)
                + "\ndigits(0, 5) = 16\nlay(5, 39, 5)\ndigits(0, 5) = 0");
        book.edge(28, "more than one: tens that are worn off", """
                box [b09w02r00]
                fill 0: 2 4
                digits(0, 0) = 132
                digits(1, 0) = 132
                digits(2, 0) = 4
                fill 0: 5 0
                digits(0, 0) = 341
                digits(1, 0) = 1
                """);
        book.edge(28, "as it lies now: the same, OVER or not; nothing is changed", """
                box [r40w73]
                fill 0: 1 5
                digits(0, 0) = 32
                over(0)
                digits(0, 0) = 32
                rod(0, 1) = 1 asked 5
                count(2) = 1
                """);
        book.edge(28, "LINE 9 of a SLID one is LINE 1", """
                box [s00r00]
                fill 0: 9 7
                digits(0, 0) = 128
                fill 0: 8 63
                digits(0, 0) = 128
                """);
        book.edge(28, "a DOUBLED one: below its MARK, in it", """
                box [d05r00]
                fill 0: 4 8
                digits(0, 0) = 128
                fill 0: 5 10
                digits(0, 0) = 4
                """);
    }

    private static void kinds() {
        book.edge(29, "nothing was seen: all six", """
                box [r40w73]
                row(0, 0)
                kinds(0, 0) = 63
                kinds(1, 0) = 63
                """);
        book.edge(29, "none: what no KIND SHOWS, up to 999999999", """
                box [r40w73]
                fill 0: 9 999999999
                kinds(0, 0) = 0
                fill 0: 1 4 1 5
                kinds(0, 0) = 0
                """);
        book.edge(29, "one alone, each of the six or with those that can't be told from it", """
                box [r94r00]
                fill 0: 4 36 1 9
                kinds(0, 0) = 1
                fill 0: 4 6 9 81
                kinds(0, 0) = 2
                fill 0: 9 0
                kinds(0, 0) = 4
                fill 0: 9 9
                kinds(0, 0) = 8
                fill 0: 4 6 9 1
                kinds(0, 0) = 16
                fill 0: 1 0 9 81
                kinds(0, 0) = 32
                """);
        book.edge(29, "MARK 0, DIGIT 0: all but TURNED are alike", """
                box [r00w00]
                fill 0: 9 0
                kinds(0, 0) = 59
                fill 0: 9 81
                kinds(0, 0) = 4
                """);
        book.edge(29, "DIGIT now: OVER", """
                box [r90w00]
                over(0)
                fill 0: 9 0
                kinds(0, 0) = 59
                """);
        book.edge(29, "its own KIND does not matter", """
                box [r44w44t44s44b44d44]
                fill 0: 4 6
                kinds(0, 0) = 18
                kinds(1, 0) = 18
                kinds(2, 0) = 18
                kinds(3, 0) = 18
                kinds(4, 0) = 18
                kinds(5, 0) = 18
                """);
        book.edge(29, "twenty pairs; the last one counts", "box [r40w73]\nfill 5: " + "9 36 ".repeat(20)
                + "\nkinds(0, 5) = 51\nlay(5, 39, 37)\nkinds(0, 5) = 0");
    }

    private static void test() {
        book.edge(30, "NONE: there is no KIND; what was told stays", """
                box [r40w73]
                rod(0, 1) = 1 asked 4
                fill 0: 9 999999999
                rod(0, 1) = 1 asked 4
                test(0, 0) = NONE
                asked() = 4
                """);
        for (String seen : new String[] {"4 36 1 9", "4 6 9 81", "9 0", "9 9", "4 6 9 1", "1 0 9 81"}) {
            book.edge(30, "one KIND alone: the first LINE, a part of one", "box [r94r00]\nfill 0: " + seen
                    + "\ntest(0, 0) = 1 asked 1");
        }
        book.edge(30, "all alike in each LINE: the first LINE, all of them", """
                box [r00r00]
                fill 0: 1 0
                test(0, 0) = 1 asked 5
                """);
        book.edge(30, "the last LINE: a ROD and a WORN one of MARK 9", """
                box [r99r00]
                fill 0: 2 18
                kinds(0, 0) = 3
                test(0, 0) = 9 asked 1
                """);
        book.edge(30, "the first of LINES alike; the greatest part counts, not how many parts", """
                box [r99r00]
                fill 0: 1 9
                kinds(0, 0) = 19
                test(0, 0) = 2 asked 2
                """);
        book.edge(30, "nothing was seen: all six", """
                box [r00r74]
                row(0, 0)
                test(0, 0) = 1 asked 5
                test(1, 0) = 1 asked 3
                """);
        book.edge(30, "DIGIT now: OVER", """
                box [r09r00]
                over(0)
                fill 0: 2 18
                test(0, 0) = 9 asked 1
                """);
    }

    private static void other() {
        book.edge(31, "BAD: a ROW that there is not", """
                other(-1) = BAD
                other(6) = BAD
                other(MIN) = BAD
                other(MAX) = BAD
                """);
        book.edge(31, "without RODS, nothing in THE FRAME: the ROW is looked at, then NONE", """
                other(0) = NOTHING
                row(0, 1)
                other(0) = SIZE
                row(0, 2)
                other(0) = UNLIKE
                row(0, 0)
                other(0) = NONE
                fill 0: 1 0
                other(0) = NONE
                box [r40w73]
                other(0) = NONE
                """);
        book.edge(31, "NONE: in no way; what was told stays", """
                box [r40w73]
                laid(0)
                laid(1)
                fill 0: 1 999999999
                rod(1, 2) = 1 asked 3
                other(0) = NONE
                asked() = 3
                """);
        book.edge(31, "NONE: its own DIGIT is not another one", """
                box [r40w73]
                laid(0)
                laid(1)
                fill 0: 1 47
                other(0) = NONE
                """);
        book.edge(31, "nothing was seen: nine ways each; the first is not its own", """
                box [r00r10]
                row(0, 0)
                laid(0)
                other(0) = 9 asked 1
                laid(1)
                other(0) = 18 asked 1
                over(0)
                other(0) = 18 asked 0
                """);
        book.edge(31, "seven in THE FRAME: 63 ways; the last place, DIGIT 9", """
                box [r10r20r30r40r50r60r70]
                laid(0)
                laid(1)
                laid(2)
                laid(3)
                laid(4)
                laid(5)
                laid(6)
                row(0, 0)
                other(0) = 63 asked 0
                fill 0: 1 1234569
                other(0) = 1 asked 69
                fill 0: 1 234567
                other(0) = 1 asked 0
                """);
        book.edge(31, "another DIGIT that SHOWS alike: 7 for 2", """
                box [b29r00]
                laid(0)
                fill 0: 2 4
                other(0) = 1 asked 7
                """);
        book.edge(31, "in two places; one LINE more tells which", """
                box [r00s00]
                laid(0)
                laid(1)
                # LINE 1 SHOWS 10 by 1 at the left, or by 5 at the right, which is slid
                fill 0: 1 10
                other(0) = 2 asked 1
                fill 0: 1 10 2 20
                other(0) = 1 asked 1
                fill 0: 1 10 2 15
                other(0) = 1 asked 15
                fill 0: 1 10 2 16
                other(0) = NONE
                """);
        book.edge(31, "by its place, not by its number; DIGIT now", """
                box [r10r20r30]
                laid(2)
                laid(0)
                over(2)
                # 6 1
                fill 0: 1 31
                other(0) = 1 asked 3
                fill 0: 1 69
                other(0) = 1 asked 19
                """);
        book.edge(31, "twenty pairs; the last one counts", "box [r40w73]\nlaid(0)\nfill 5: " + "1 5 ".repeat(20)
                + "\nother(5) = 1 asked 5\nlay(5, 39, 6)\nother(5) = NONE");
    }
}
