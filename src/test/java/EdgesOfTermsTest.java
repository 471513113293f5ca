/** The boundary cases that stand under "Terms": findings, sizes, faults, kinds, the frame, deeds. */
public final class EdgesOfTermsTest {
    private static final Script.Book book = new Script.Book();
    private static final String LETTERS = "rwtsbd";

    public static void main(String[] args) {
        findings();
        order();
        lowestTerms();
        sizes();
        theLanguage();
        everySign();
        faults();
        kindsShow();
        theFrame();
        deeds();
        allCallsOfAnObject();
        objectsApart();
        book.end("EdgesOfTermsTest", 0, 0);
    }

    private static void findings() {
        book.edge(0, "NOTHING: a ROW, a TEXT, a kept BOX that is missing", """
                at(0, 0) = NOTHING
                fault(0) = NOTHING
                on(0) = NOTHING
                finding() = 1
                findings(1) = 3
                """);
        book.edge(0, "BEYOND: a place that there is not", """
                row(0, 1)
                text(0, 1)
                at(0, 1) = BEYOND
                lay(0, 1, 1) = BEYOND
                put(0, 1, 1) = BEYOND
                copy(0, 1, 0, 0, 1) = BEYOND
                finding() = 2
                findings(2) = 4
                """);
        book.edge(0, "UNLIKE: a ROD of another KIND; a number that is none", """
                box [r40w73]
                mark(0, 1) = UNLIKE
                row(0, 2)
                digits(0, 0) = UNLIKE
                finding() = 3
                findings(3) = 2
                """);
        book.edge(0, "NOUGHT: shared among none", """
                row(0, 0)
                mean(0) = NOUGHT
                finding() = 4
                findings(4) = 1
                """);
        book.edge(0, "SIZE: fewer than none; not as many as due", """
                row(0, -1) = SIZE
                text(0, -1) = SIZE
                copy(0, 0, 0, 0, -1) = SIZE
                box [r40w73]
                row(0, 1)
                digits(0, 0) = SIZE
                finding() = 5
                findings(5) = 4
                """);
    }

    /** Each call for which two refusals fit at once, if it does not say otherwise: BAD, FULL, STATE, FINDING. */
    private static void order() {
        book.edge(0, "BAD ahead of STATE", """
                keep(3) = BAD
                makes(-1, 1, 0) = BAD
                most(1, 0, 0) = BAD
                near(-1, 1) = BAD
                duel(-1, 1) = BAD
                odds(0, 1) = BAD
                mid(0, 1) = BAD
                lots(0, 1) = BAD
                """);
        book.edge(0, "BAD ahead of a FINDING", """
                row(6, -1) = BAD
                lay(6, -1, 0) = BAD
                at(6, -1) = BAD
                tear(6) = BAD
                copy(6, -1, 6, -1, -1) = BAD
                mean(6) = BAD
                text(4, -1) = BAD
                put(4, -1, 0) = BAD
                fault(4) = BAD
                box(4) = BAD
                on(3) = BAD
                digits(0, 0) = BAD
                kinds(0, 0) = BAD
                test(0, 0) = BAD
                other(6) = BAD
                finding() = 0
                """);
    }

    private static void lowestTerms() {
        book.edge(0, "chances and means in lowest terms, 0 by 1", """
                box [r40r60]
                laid(0)
                odds(1, 12) = 1 by 0/1
                odds(1, 0) = 1 by 1/1
                odds(1, 6) = 1 by 1/2
                odds(1, 8) = 1 by 1/3
                mid(1, 12) = 1 by 0/1
                mid(1, 0) = 1 by 4/1
                mid(1, 6) = 1 by 2/1
                mid(1, 2) = 1 by 10/3
                """);
    }

    private static void sizes() {
        book.edge(0, "ROWS 0 .. 5 are rows of 0 to 40 ints, missing at first", """
                count(6) = 0
                tear(0) = NOTHING
                tear(5) = NOTHING
                row(0, 0) = 0
                row(5, 40) = 40
                at(5, 39) = 1 asked 0
                row(6, 0) = BAD
                row(0, 41) = BAD
                count(6) = 2
                """);
        book.edge(0, "TEXTS 0 .. 3 are rows of 0 to 60 bytes, missing at first", """
                count(7) = 0
                fault(0) = NOTHING
                fault(3) = NOTHING
                text(0, 0) = 0
                text(3, 60) = 60
                put(3, 59, 1) = 1032
                text(4, 0) = BAD
                text(0, 61) = BAD
                count(7) = 2
                """);
    }

    private static void boxIs(String sentence, String signs, int rods) {
        book.edge(0, sentence, "write 2 [" + signs + "]\nfault(2) = NONE\nbox(2) = " + rods + "\ncount(0) = " + rods);
    }

    private static void theLanguage() {
        boxIs("2 RODS, no blanks", "r00r00", 2);
        boxIs("7 RODS, no blanks", "r00w11t22s33b44d55r99", 7);
        boxIs("blanks ahead", "   r00r00", 2);
        boxIs("blanks between, 54 of them", "r00" + " ".repeat(54) + "d99", 2);
        boxIs("blanks behind, to the TEXT's end", "r00r00" + " ".repeat(54), 2);
        boxIs("blanks behind the seventh", "r00w11t22s33b44d55r99" + " ".repeat(39), 7);
        book.edge(0, "DIGITS and MARKS 0 and 9", """
                box [r09w90]
                rod(0, 1) = 1 asked 0
                rod(0, 2) = 1 asked 9
                rod(1, 1) = 1 asked 9
                rod(1, 2) = 1 asked 0
                """);
        book.edge(0, "RODS 0, 1, .. as they come", """
                box [d12 b34 s56 t78 w90 r21 d43]
                rod(0, 0) = 1 asked 5
                rod(1, 0) = 1 asked 4
                rod(2, 0) = 1 asked 3
                rod(3, 0) = 1 asked 2
                rod(4, 0) = 1 asked 1
                rod(5, 0) = 1 asked 0
                rod(6, 0) = 1 asked 5
                rod(6, 1) = 1 asked 4
                rod(6, 2) = 1 asked 3
                """);
        book.edge(0, "a BOX is without RODS at first", """
                count(0) = 0
                rod(0, 0) = BAD
                """);
    }

    /** All 256 bytes at a letter's, a DIGIT's, a MARK's place, and behind an item. */
    private static void everySign() {
        for (int v = 0; v < 256; v++) {
            boolean letter = LETTERS.indexOf(v) >= 0;
            boolean figure = v >= '0' && v <= '9';
            boolean blank = v == ' ';
            faultWith(0, v, letter ? BoneRods.NONE : blank ? 1 : 0);
            faultWith(1, v, figure ? BoneRods.NONE : 1);
            faultWith(2, v, figure ? BoneRods.NONE : 2);
            faultWith(3, v, blank ? BoneRods.NONE : letter ? 4 : 3);
        }
    }

    private static void faultWith(int place, int v, int want) {
        BoneRods x = new BoneRods();
        Check.write(x, 0, "r00 w11");
        x.put(0, place, v);
        book.due(0, "fault with byte " + v + " at " + place, x.fault(0), want);
    }

    private static void faultAt(String sentence, String signs, int place) {
        book.edge(0, "FAULT, " + sentence, "write 1 [" + signs + "]\nfault(1) = " + place + "\nbox(1) = STATE");
    }

    private static void faults() {
        String seven = "r00w11t22s33b44d55r66";
        faultAt("a letter that is none such", "x00r00", 0);
        faultAt("a letter that is none such, behind blanks", "  X00r00", 2);
        faultAt("a figure where a letter is due", "r00r000", 6);
        faultAt("a figure where the first letter is due", "4", 0);
        faultAt("a letter where a DIGIT is due", "rr0r00", 1);
        faultAt("a letter where a MARK is due", "r0rr00", 2);
        faultAt("a blank within an item, ahead of its DIGIT", "r 00r00", 1);
        faultAt("a blank within an item, ahead of its MARK", "r0 0r00", 2);
        faultAt("an eighth ROD", seven + "r77", 21);
        faultAt("an eighth ROD behind blanks", seven + "  r77", 23);
        faultAt("an eighth ROD that has its letter alone", seven + "r", 21);
        faultAt("an eighth ROD in a TEXT of 60", seven + " ".repeat(38) + "r", 59);
        faultAt("no letter behind seven RODS", seven + " 0", 22);
        faultAt("the end comes behind a letter", "r00r", 4);
        faultAt("the end comes behind a DIGIT", "r00r0", 5);
        faultAt("the end comes within the third ROD", "r00r00d", 7);
        faultAt("the end comes within the seventh ROD", seven.substring(0, 20), 20);
        faultAt("the end comes within the first ROD", "r", 1);
        faultAt("a blank at the end, within an item", "r00r0 ", 5);
        faultAt("one ROD alone", "r00", 3);
        faultAt("one ROD alone, blanks behind it", "r00   ", 6);
        faultAt("one ROD alone in a TEXT of 60", " ".repeat(57) + "r00", 60);
        faultAt("an empty TEXT", "", 0);
        faultAt("one blank alone", " ", 1);
        faultAt("60 blanks alone", " ".repeat(60), 60);
        faultAt("the first of two", "r00 x y", 4);
    }

    private static void showsAll(String sentence, String rod, boolean over, int... want) {
        StringBuilder lines = new StringBuilder("box [" + rod + " r00]\n");
        if (over) {
            lines.append("over(0)\n");
        }
        for (int n = 1; n <= 9; n++) {
            lines.append("shows(0, " + n + ") = " + want[n - 1] + "\n");
        }
        book.edge(0, rod + (over ? " OVER" : "") + ", " + sentence, lines.toString());
    }

    private static void kindsShow() {
        showsAll("a ROD of DIGIT 0", "r05", false, 0, 0, 0, 0, 0, 0, 0, 0, 0);
        showsAll("a ROD of DIGIT 9", "r95", false, 9, 18, 27, 36, 45, 54, 63, 72, 81);
        showsAll("a WORN one, MARK 0 is no LINE", "w90", false, 9, 18, 27, 36, 45, 54, 63, 72, 81);
        showsAll("a WORN one, no tens in LINE 1", "w91", false, 9, 18, 27, 36, 45, 54, 63, 72, 81);
        showsAll("a WORN one, its last LINE", "w99", false, 9, 18, 27, 36, 45, 54, 63, 72, 1);
        showsAll("a WORN one, just 10 without its tens", "w52", false, 5, 0, 15, 20, 25, 30, 35, 40, 45);
        showsAll("a TURNED one of DIGIT 9", "t95", false, 0, 0, 0, 0, 0, 0, 0, 0, 0);
        showsAll("a TURNED one of DIGIT 0", "t05", false, 9, 18, 27, 36, 45, 54, 63, 72, 81);
        showsAll("a SLID one, LINE 9 as LINE 1", "s90", false, 18, 27, 36, 45, 54, 63, 72, 81, 9);
        showsAll("a BENT one, MARK 0: no LINE is above 9", "b90", false, 9, 18, 27, 36, 45, 54, 63, 72, 81);
        showsAll("a BENT one, MARK 1: LINES 1 and 9", "b91", false, 9, 18, 27, 36, 45, 54, 63, 72, 1);
        showsAll("a BENT one, MARK 4: not LINE 5", "b94", false, 9, 18, 27, 6, 45, 4, 3, 2, 1);
        showsAll("a BENT one, MARK 5: from LINE 5 on", "b95", false, 9, 18, 27, 36, 5, 4, 3, 2, 1);
        showsAll("a BENT one, MARK 8: from LINE 2 on", "b38", false, 3, 6, 9, 2, 5, 8, 1, 4, 7);
        showsAll("a BENT one, MARK 9: all LINES", "b99", false, 9, 8, 7, 6, 5, 4, 3, 2, 1);
        showsAll("a DOUBLED one, MARK 0: a ROD in all LINES", "d30", false, 3, 6, 9, 12, 15, 18, 21, 24, 27);
        showsAll("a DOUBLED one, MARK 1: a ROD in all LINES", "d31", false, 3, 6, 9, 12, 15, 18, 21, 24, 27);
        showsAll("a DOUBLED one, MARK 2: turned in LINE 1", "d32", false, 6, 6, 9, 12, 15, 18, 21, 24, 27);
        showsAll("a DOUBLED one, MARK 9: a ROD in LINE 9", "d39", false, 6, 12, 18, 24, 30, 36, 42, 48, 27);
        showsAll("9 less its own: DIGIT 0", "r95", true, 0, 0, 0, 0, 0, 0, 0, 0, 0);
        showsAll("9 less its own: DIGIT 9", "r05", true, 9, 18, 27, 36, 45, 54, 63, 72, 81);
        showsAll("of its KIND still", "w09", true, 9, 18, 27, 36, 45, 54, 63, 72, 1);
        showsAll("of its KIND still", "t95", true, 9, 18, 27, 36, 45, 54, 63, 72, 81);
        showsAll("of its KIND still", "s09", true, 18, 27, 36, 45, 54, 63, 72, 81, 9);
        showsAll("of its KIND still", "b05", true, 9, 18, 27, 36, 5, 4, 3, 2, 1);
        showsAll("of its KIND still", "d62", true, 6, 6, 9, 12, 15, 18, 21, 24, 27);
    }

    private static void theFrame() {
        book.edge(0, "THE FRAME holds none at first: 0 is READ OFF", """
                reads(1) = 0 asked 0
                box [r90r90]
                count(1) = 0
                reads(9) = 0 asked 0
                """);
        book.edge(0, "OVER once more: back", """
                box [r30r90]
                over(0) = 6
                rod(0, 4) = 1 asked 1
                over(0) = 3
                rod(0, 4) = 1 asked 0
                count(5) = 0
                count(2) = 2
                """);
        book.edge(0, "a ROD that is in THE FRAME is not in THE BOX", """
                box [r30r90]
                laid(1) = 1
                laid(1) = STATE
                lift() = 1
                laid(1) = 1
                """);
    }

    private static void deeds() {
        book.edge(0, "40 DEEDS at most, each of the four ways", """
                box [r10r20r30]
                laid(0)
                laid(1)
                36 times over(0)
                change(0, 1) = 1
                lift() = 0
                count(2) = 40
                laid(2) = FULL
                lift() = FULL
                over(2) = FULL
                lots(1, 1) = FULL
                count(2) = 40
                """);
        book.edge(0, "the 40th DEED by each way", """
                box [r10r20r30]
                39 times over(0)
                laid(0) = 1
                undo(39) = 1
                over(0) = 1
                undo(39) = 1
                lots(1, 2) = 0
                count(2) = 40
                """);
    }

    /** Up to the last call of an object its answers are promised. */
    private static void allCallsOfAnObject() {
        BoneRods x = new BoneRods();
        for (int call = 1; call <= 511; call++) {
            book.due(0, "call " + call + ", at(5, 0)", x.at(5, 0), BoneRods.FINDING);
        }
        book.due(0, "call 512, findings(1)", x.findings(1), 511);
        // a TEXT, its six bytes and the BOX are eight calls
        BoneRods y = Check.withBox("r10r20");
        for (int call = 9; call <= 511; call++) {
            int want = call > 48 ? BoneRods.FULL : call % 2 == 1 ? 8 : 1;
            book.due(0, "call " + call + ", over(0)", y.over(0), want);
        }
        book.due(0, "call 512, count(2)", y.count(2), 40);
    }

    private static void objectsApart() {
        BoneRods x = Check.withBox("r10r20");
        BoneRods y = new BoneRods();
        x.laid(0);
        x.row(0, 3);
        x.keep(0);
        x.row(0, -1);
        x.rod(0, 1);
        x.mid(1, 1);
        for (int what = 0; what <= 10; what++) {
            book.due(0, "another object's count(" + what + ")", y.count(what), 0);
        }
        book.due(0, "another object's finding()", y.finding(), 0);
        book.due(0, "another object's asked()", y.asked(), 0);
        book.due(0, "another object's upper()", y.upper(), 0);
        book.due(0, "another object's lower()", y.lower(), 1);
        book.due(0, "another object's digest()", y.digest(), new BoneRods().digest());
    }
}
