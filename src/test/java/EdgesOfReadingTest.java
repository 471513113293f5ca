/** The boundary cases of promises 22 to 24. */
public final class EdgesOfReadingTest {
    private static final Script.Book book = new Script.Book();
    private static final String ALL_SEVEN = "laid(0)\nlaid(1)\nlaid(2)\nlaid(3)\nlaid(4)\nlaid(5)\nlaid(6)\n";

    public static void main(String[] args) {
        reads();
        wrong();
        carries();
        book.end("EdgesOfReadingTest", 22, 24);
    }

    private static void reads() {
        book.edge(22, "BAD: a LINE that there is not, also without RODS", """
                reads(0) = BAD
                box [r40r70]
                laid(0)
                reads(0) = BAD
                reads(10) = BAD
                reads(-1) = BAD
                reads(MIN) = BAD
                reads(MAX) = BAD
                """);
        book.edge(22, "nothing in THE FRAME: 0, and 0 is RIGHT", """
                reads(1) = 0 asked 0
                box [r40r70]
                rod(0, 1) = 1 asked 4
                reads(9) = 0 asked 0
                laid(1)
                reads(9) = 63 asked 63
                lift()
                reads(9) = 0 asked 0
                """);
        book.edge(22, "seven nines by LINES 1 and 9",
                "box [r90r90r90r90r90r90r90]\n" + ALL_SEVEN + """
                reads(1) = 9999999 asked 9999999
                reads(9) = 89999991 asked 89999991
                """);
        book.edge(22, "seven that SHOW most where less is RIGHT",
                "box [s90s90s90s90s90s90s90]\n" + ALL_SEVEN + """
                reads(8) = 89999991 asked 79999992
                reads(9) = 9999999 asked 89999991
                """);
        book.edge(22, "noughts at the left", """
                box [r00r00r10]
                laid(0)
                laid(1)
                laid(2)
                reads(9) = 9 asked 9
                """);
        book.edge(22, "what is OVER: its DIGIT now is RIGHT", """
                box [t90r00]
                laid(0)
                reads(9) = 0 asked 81
                over(0)
                reads(9) = 81 asked 0
                """);
    }

    private static void wrong() {
        book.edge(23, "without RODS; nothing in THE FRAME: none", """
                wrong() = 0
                box [t40s70]
                wrong() = 0
                """);
        book.edge(23, "LINE 1 alone", """
                box [d42r00]
                laid(0)
                wrong() = 2
                """);
        book.edge(23, "LINE 9 alone", """
                box [w99r00]
                laid(0)
                wrong() = 512
                """);
        book.edge(23, "all LINES: bits 1 .. 9", """
                box [t40r00]
                laid(0)
                wrong() = 1022
                """);
        book.edge(23, "two that are wrong, RIGHT by LINE 2 (3 and 4: 34)", """
                box [s10t70]
                laid(0)
                laid(1)
                wrong() = 1018
                """);
        book.edge(23, "a ROD without tens to lose, one of DIGIT 0", """
                box [b19s00]
                laid(0)
                laid(1)
                wrong() = 0
                """);
        book.edge(23, "no more when it is LIFTED; those in THE BOX don't count", """
                box [t40r00]
                laid(1)
                wrong() = 0
                laid(0)
                wrong() = 1022
                lift()
                wrong() = 0
                """);
    }

    private static void carries() {
        book.edge(24, "BAD: a LINE that there is not, also without RODS", """
                carries(0) = BAD
                box [r40r70]
                laid(1)
                carries(9) = 1 asked 6
                carries(0) = BAD
                carries(10) = BAD
                carries(-1) = BAD
                carries(MIN) = BAD
                carries(MAX) = BAD
                asked() = 6
                """);
        book.edge(24, "nothing in THE FRAME: never, 0 is told", """
                carries(9) = 0 asked 0
                box [r40r70]
                rod(1, 1) = 1 asked 7
                carries(9) = 0 asked 0
                """);
        book.edge(24, "9 is not carried, just 10 is", """
                box [r90r50]
                laid(0)
                rod(0, 1) = 1 asked 9
                carries(1) = 0 asked 0
                lift()
                laid(1)
                carries(2) = 1 asked 1
                """);
        book.edge(24, "just 10 by what is carried, on to the left end", """
                box [r30r30r40]
                laid(0)
                laid(1)
                laid(2)
                carries(3) = 3 asked 1
                """);
        book.edge(24, "just 9 by what is carried", """
                box [r40r50]
                laid(0)
                laid(1)
                carries(2) = 1 asked 1
                """);
        book.edge(24, "the most at once: at the right, in the middle, at the left", """
                box [r10r90r00]
                laid(0)
                laid(1)
                carries(9) = 2 asked 8
                change(0, 1)
                carries(9) = 1 asked 8
                laid(2)
                change(0, 1)
                carries(9) = 2 asked 8
                """);
        book.edge(24, "seven nines by LINE 9", "box [r90r90r90r90r90r90r90]\n" + ALL_SEVEN + """
                carries(9) = 7 asked 8
                carries(1) = 0 asked 0
                """);
        book.edge(24, "by what is SHOWN: tens that are worn off are not carried", """
                box [w99r00]
                laid(0)
                carries(8) = 1 asked 7
                carries(9) = 0 asked 0
                """);
    }
}
