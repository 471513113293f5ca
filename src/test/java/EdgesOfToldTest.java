/** The boundary cases of promises 36 to 42. */
public final class EdgesOfToldTest {
    private static final Script.Book book = new Script.Book();

    public static void main(String[] args) {
        asked();
        upperAndLower();
        count();
        finding();
        findings();
        digest();
        digestOfAll();
        book.end("EdgesOfToldTest", 36, 42);
    }

    private static void asked() {
        book.edge(36, "0 before; what is refused tells nothing", """
                asked() = 0
                lay(0, 0, 5) = NOTHING
                at(6, 0) = BAD
                mean(0) = NOTHING
                rod(0, 0) = BAD
                reads(0) = BAD
                carries(10) = BAD
                near(0, 1) = STATE
                test(0, 0) = BAD
                other(0) = NOTHING
                asked() = 0
                """);
        book.edge(36, "each call that tells, the latest one", """
                box [r40w73r90]
                fill 0: 6 8
                lay(0, 0, 1) = 1 asked 6
                at(0, 0) = 1 asked 1
                lay(0, 0, 6) = 1 asked 1
                mean(0) = 1 asked 7
                rod(1, 2) = 1 asked 3
                laid(0)
                reads(9) = 36 asked 36
                carries(9) = 1 asked 3
                near(47, 1) = 432 asked 12
                row(1, 0)
                test(0, 1) = 1 asked 4
                other(1) = 9 asked 0
                """);
        String told = "box [r40w73]\nlaid(0)\nfill 0: 1 4 9 36\nrow(1, 0)\nrow(2, 1)\nrod(1, 1) = 1 asked 7\n";
        for (String call : new String[] {"lay(0, 4, 1) = BEYOND", "lay(6, 0, 1) = BAD", "lay(5, 0, 1) = NOTHING",
                "at(0, -1) = BEYOND", "at(-1, 0) = BAD", "at(5, 0) = NOTHING", "mean(1) = NOUGHT", "mean(5) = NOTHING",
                "mean(6) = BAD", "rod(2, 0) = BAD", "rod(0, 5) = BAD", "reads(0) = BAD", "reads(10) = BAD",
                "carries(0) = BAD", "carries(10) = BAD", "near(-1, 1) = BAD", "near(10000, 1) = BAD", "near(0, 0) = BAD",
                "test(2, 0) = BAD", "test(0, 5) = NOTHING", "test(0, 2) = SIZE", "other(6) = BAD", "other(5) = NOTHING",
                "other(2) = SIZE", "other(0) = NONE"}) {
            book.edge(36, "stays by what is refused or answered NONE", told + call + "\nasked() = 7");
        }
        book.edge(36, "stays by test() that answers NONE, UNLIKE", """
                box [r40w73]
                fill 0: 1 99
                rod(1, 1) = 1 asked 7
                test(0, 0) = NONE
                asked() = 7
                lay(0, 0, 0)
                rod(1, 1) = 1 asked 7
                test(0, 0) = UNLIKE
                other(0) = UNLIKE
                asked() = 7
                """);
        for (String call : new String[] {"row(0, 3)", "tear(0)", "copy(0, 0, 0, 1, 1)", "text(1, 2)", "put(0, 0, 9)",
                "fault(0)", "box(0)", "mark(1, 1)", "shows(0, 9)", "laid(1)", "lift()", "over(0)", "undo(0)", "keep(0)",
                "wrong()", "makes(4, 1, 3)", "most(1, 1, 3)", "digits(0, 0)", "kinds(0, 0)", "duel(1, 1)", "odds(1, 1)",
                "mid(1, 1)", "lots(5, 5)", "asked()", "upper()", "lower()", "count(0)", "finding()", "findings(1)",
                "digest()"}) {
            book.edge(36, "stays by " + call, told + call + "\nasked() = 7");
        }
        book.edge(36, "stays by change() and on()", told + """
                laid(1)
                change(0, 1) = 1
                asked() = 7
                keep(0)
                on(0) = 3
                asked() = 7
                """);
        book.edge(36, "0 is told by what is 0", told + """
                at(2, 0) = 1 asked 0
                rod(1, 1) = 1 asked 7
                lay(2, 0, 5) = 1 asked 0
                rod(1, 1) = 1 asked 7
                carries(1) = 0 asked 0
                """);
    }

    private static void upperAndLower() {
        book.edge(37, "0 before; what is refused tells nothing", """
                upper() = 0
                odds(1, 1) = STATE
                mid(1, 1) = STATE
                upper() = 0
                """);
        book.edge(38, "1 before; what is refused tells nothing", """
                lower() = 1
                odds(0, 1) = BAD
                mid(1, 13) = BAD
                lower() = 1
                """);
        String told = "box [r50r70]\nlaid(0)\nmid(1, 1) = 1 by 55/12\n";
        book.edge(37, "told last stays by all but odds() and mid()", told + """
                odds(0, 1) = BAD
                mid(1, -1) = BAD
                row(0, 1)
                mean(0)
                laid(1)
                reads(1)
                keep(0)
                lots(3, 3)
                on(0)
                undo(0)
                box(0) = 2
                upper() = 55
                """);
        book.edge(38, "told last stays by all but odds() and mid()", told + """
                odds(10, 1) = BAD
                mid(0, 1) = BAD
                row(0, 1)
                mean(0)
                laid(1)
                near(5, 1)
                keep(0)
                lots(3, 3)
                on(0)
                undo(0)
                box(0) = 2
                lower() = 12
                """);
        book.edge(37, "the latest of the two; 0 by 1", told + """
                odds(1, 4) = 1 by 2/3
                mid(1, 12) = 1 by 0/1
                odds(1, 12) = 1 by 0/1
                upper() = 0
                """);
        book.edge(38, "the latest of the two; 0 by 1", told + """
                odds(1, 3) = 1 by 3/4
                mid(1, 0) = 1 by 5/1
                mid(1, 12) = 1 by 0/1
                lower() = 1
                """);
    }

    private static void count() {
        book.edge(39, "BAD: below 0, above 10", """
                count(-1) = BAD
                count(11) = BAD
                count(MIN) = BAD
                count(MAX) = BAD
                """);
        book.edge(39, "all 0 at first", """
                count(0) = 0
                count(1) = 0
                count(2) = 0
                count(3) = 0
                count(4) = 0
                count(5) = 0
                count(6) = 0
                count(7) = 0
                count(8) = 0
                count(9) = 0
                count(10) = 0
                """);
        book.edge(39, "seven RODS, all in THE FRAME, all OVER", """
                box [r00r00r00r00r00r00r00]
                laid(0)
                laid(1)
                laid(2)
                laid(3)
                laid(4)
                laid(5)
                laid(6)
                over(0)
                over(1)
                over(2)
                over(3)
                over(4)
                over(5)
                over(6)
                count(0) = 7
                count(1) = 7
                count(2) = 14
                count(3) = 9999999
                count(4) = 127
                count(5) = 127
                """);
        book.edge(39, "DEEDS: 40, DEEDS of nothing among them", """
                box [r00r00]
                39 times over(0)
                # 2 comes to 96542: LIFTED, but there is none
                lots(1, 2)
                count(2) = 40
                """);
        book.edge(39, "all ROWS, all TEXTS, all kept BOXES; ROWS torn are none", """
                row(0, 0)
                row(1, 40)
                row(2, 0)
                row(3, 1)
                row(4, 1)
                row(5, 0)
                row(5, 0)
                count(6) = 6
                tear(0)
                tear(5)
                count(6) = 4
                text(1, 60)
                text(2, 0)
                text(3, 1)
                text(3, 0)
                box [r10r20]
                count(7) = 4
                keep(0)
                keep(1)
                keep(2)
                keep(2)
                count(8) = 3
                """);
        book.edge(39, "WORN ones and TURNED ones: those that are BENT, DOUBLED, too", """
                box [b00b00b00b00b00w00w00]
                count(9) = 7
                count(10) = 0
                box [d00d00d00t00t00t00t00]
                count(9) = 0
                count(10) = 7
                box [r00s00s00]
                count(9) = 0
                count(10) = 0
                """);
        book.edge(39, "bits of THE FRAME by RODS, not by places", """
                box [r10r20r30r40r50r60r70]
                laid(6)
                laid(0)
                count(4) = 65
                change(0, 1)
                count(4) = 65
                lift()
                count(4) = 1
                """);
    }

    private static void finding() {
        book.edge(40, "0 before any; BAD, STATE, NONE are none", """
                finding() = 0
                row(6, -1) = BAD
                lift() = STATE
                write 0 [r00r00]
                fault(0) = NONE
                finding() = 0
                """);
        book.edge(40, "FULL is none", """
                box [r00r00]
                40 times over(0)
                over(0) = FULL
                finding() = 0
                """);
        book.edge(40, "the latest one, until there is another", """
                row(0, -1) = SIZE
                row(0, 0)
                finding() = 5
                mean(0) = NOUGHT
                finding() = 4
                at(0, 0) = BEYOND
                at(9, 0) = BAD
                finding() = 2
                on(0) = NOTHING
                finding() = 1
                box [r00r00]
                finding() = 1
                mark(0, 1) = UNLIKE
                keep(0)
                on(0)
                finding() = 3
                """);
    }

    private static void findings() {
        book.edge(41, "BAD: no FINDING", """
                findings(0) = BAD
                findings(6) = BAD
                findings(-1) = BAD
                findings(MIN) = BAD
                findings(MAX) = BAD
                """);
        book.edge(41, "0 before any, each by itself", """
                findings(1) = 0
                findings(2) = 0
                findings(3) = 0
                findings(4) = 0
                findings(5) = 0
                row(0, -1)
                row(0, -1)
                row(0, 0)
                mean(0)
                at(0, 0)
                at(0, 1)
                at(0, 2)
                5 times on(0)
                box [r00r00]
                4 times mark(0, 5)
                findings(1) = 5
                findings(2) = 3
                findings(3) = 4
                findings(4) = 1
                findings(5) = 2
                """);
        book.edge(41, "a new BOX, a kept one leave them", """
                row(0, -1)
                box [r00r00]
                keep(0)
                row(0, -1)
                on(0)
                findings(5) = 2
                """);
    }

    private static long folded(long... all) {
        long h = 17;
        for (long v : all) {
            h = 31 * h + v;
        }
        return h;
    }

    private static void digest() {
        BoneRods x = new BoneRods();
        book.due(42, "of a new one", x.digest(), folded(0, 0, 0, 0, 0, 0, 0, 0, 0, 0, 0,
                -1, -1, -1, -1, -1, -1, -1, -1, -1, -1, -1, -1, -1));
        x.row(0, 0);
        book.due(42, "of an empty ROW, which is not a missing one", x.digest(), folded(0, 0, 0, 0, 0, 0, 1, 0, 0, 0, 0,
                -1, -1, -1, 0, -1, -1, -1, -1, -1, -1, -1, -1, -1));
        x.text(3, 0);
        book.due(42, "of an empty TEXT", x.digest(), folded(0, 0, 0, 0, 0, 0, 1, 1, 0, 0, 0,
                -1, -1, -1, 0, -1, -1, -1, -1, -1, -1, -1, -1, 0));
        x.tear(0);
        book.due(42, "of a ROW that was torn", x.digest(), folded(0, 0, 0, 0, 0, 0, 0, 1, 0, 0, 0,
                -1, -1, -1, -1, -1, -1, -1, -1, -1, -1, -1, -1, 0));
        x.row(5, 2);
        x.lay(5, 0, Integer.MIN_VALUE);
        x.lay(5, 1, Integer.MAX_VALUE);
        x.text(0, 3);
        x.put(0, 0, -128);
        x.put(0, 1, 255);
        book.due(42, "of the least and greatest ints, of bytes below 0", x.digest(),
                folded(0, 0, 0, 0, 0, 0, 1, 2, 0, 0, 0, -1, -1, -1, -1, -1, -1, -1, -1, 2, Integer.MIN_VALUE,
                        Integer.MAX_VALUE, 3, -128, -1, 32, -1, -1, 0));
        x.at(5, 1);
        x.row(5, -1);
        x.mean(4);
        x.asked();
        book.due(42, "asked() and FINDINGS don't count", x.digest(),
                folded(0, 0, 0, 0, 0, 0, 1, 2, 0, 0, 0, -1, -1, -1, -1, -1, -1, -1, -1, 2, Integer.MIN_VALUE,
                        Integer.MAX_VALUE, 3, -128, -1, 32, -1, -1, 0));
        book.due(42, "asked() is left by it", x.asked(), Integer.MAX_VALUE);
        book.due(42, "finding() is left by it", x.finding(), 1);
    }

    /** Seven RODS, all kept places, sums that wrap around many times. */
    private static void digestOfAll() {
        BoneRods x = Check.withBox("r09w18t27s36b45d54w63");
        x.text(0, 0);
        x.keep(0);
        for (int i = 6; i >= 0; i--) {
            x.laid(i);
        }
        x.over(6);
        x.keep(1);
        x.lots(20, 1);
        x.undo(8);
        x.lift();
        x.keep(2);
        book.due(42, "of seven RODS and three kept BOXES", x.digest(), folded(
                // OVER: 3 for 6; as LINE 1 SHOWS it: 3, DOUBLED 4, BENT 4, SLID 6, TURNED 7, WORN 1
                7, 6, 9, 344671, 126, 64, 0, 1, 3, 3, 2,
                0, 0, 9, -9, 0,
                1, 1, 8, 5, 0,
                2, 2, 7, 4, 0,
                3, 3, 6, 3, 0,
                4, 4, 5, 2, 0,
                5, 5, 4, 1, 0,
                1, 3, 3, 0, 1,
                0, 8, 9,
                -1, -1, -1, -1, -1, -1, 0, -1, -1, -1));
        BoneRods y = new BoneRods();
        long[] all = new long[11 + 3 + 6 + 6 * 40 + 4 + 4 * 60];
        int n = 0;
        for (int what = 0; what <= 10; what++) {
            all[n++] = what == 6 ? 6 : what == 7 ? 4 : 0;
        }
        for (int k = 0; k < 3; k++) {
            all[n++] = -1;
        }
        for (int r = 0; r < 6; r++) {
            y.row(r, 40);
            y.lay(r, 39, r - 3);
            all[n] = 40;
            all[n + 40] = r - 3;
            n += 41;
        }
        for (int t = 0; t < 4; t++) {
            y.text(t, 60);
            y.put(t, 59, 130 + t);
            all[n] = 60;
            java.util.Arrays.fill(all, n + 1, n + 60, 32);
            all[n + 60] = 130 + t - 256;
            n += 61;
        }
        book.due(42, "of all ROWS and TEXTS, full", y.digest(), folded(all));
    }
}
