/** The boundary cases of promises 1 to 14. */
public final class EdgesOfRowsTextsBoxesTest {
    private static final Script.Book book = new Script.Book();

    public static void main(String[] args) {
        newObject();
        row();
        lay();
        at();
        tear();
        copy();
        mean();
        text();
        put();
        fault();
        box();
        rod();
        mark();
        shows();
        book.end("EdgesOfRowsTextsBoxesTest", 1, 14);
    }

    private static void newObject() {
        book.edge(1, "no ROWS", """
                count(6) = 0
                lay(0, 0, 1) = NOTHING
                at(1, 0) = NOTHING
                tear(2) = NOTHING
                copy(3, 0, 3, 0, 0) = NOTHING
                mean(4) = NOTHING
                other(5) = NOTHING
                """);
        book.edge(1, "no TEXTS", """
                count(7) = 0
                put(0, 0, 32) = NOTHING
                fault(1) = NOTHING
                box(2) = NOTHING
                fault(3) = NOTHING
                """);
        book.edge(1, "no RODS", """
                count(0) = 0
                rod(0, 0) = BAD
                mark(0, 1) = BAD
                shows(0, 1) = BAD
                laid(0) = BAD
                lift() = STATE
                change(0, 1) = BAD
                over(0) = BAD
                undo(1) = BAD
                undo(0) = 0
                keep(0) = STATE
                on(0) = NOTHING
                reads(9) = 0 asked 0
                wrong() = 0
                carries(9) = 0 asked 0
                makes(0, 1, 0) = STATE
                most(1, 1, 0) = STATE
                near(0, 1) = STATE
                digits(0, 0) = BAD
                kinds(0, 0) = BAD
                test(0, 0) = BAD
                duel(0, 1) = STATE
                odds(1, 0) = STATE
                mid(1, 0) = STATE
                lots(1, 1) = STATE
                count(1) = 0
                count(9) = 0
                count(10) = 0
                """);
        book.edge(1, "nothing was told", """
                asked() = 0
                upper() = 0
                lower() = 1
                finding() = 0
                findings(1) = 0
                findings(5) = 0
                count(2) = 0
                count(8) = 0
                """);
    }

    private static void row() {
        book.edge(2, "BAD: a ROW that there is not", """
                row(-1, 1) = BAD
                row(6, 1) = BAD
                row(MIN, 1) = BAD
                row(MAX, 1) = BAD
                """);
        book.edge(2, "BAD: n above 40", """
                fill 0: 7 8
                row(0, 41) = BAD
                row(0, MAX) = BAD
                row 0 is 7 8
                """);
        book.edge(2, "SIZE: n below 0", """
                fill 0: 7 8
                row(0, -1) = SIZE
                row(0, MIN) = SIZE
                row 0 is 7 8
                """);
        book.edge(2, "BAD ahead of SIZE", """
                row(-1, -1) = BAD
                row(6, MIN) = BAD
                """);
        book.edge(2, "n 0: there, with no places", """
                row(0, 0) = 0
                count(6) = 1
                row 0 is
                """);
        book.edge(2, "n 40: the last place is there", """
                row(5, 40) = 40
                lay(5, 39, 7) = 1 asked 0
                at(5, 39) = 1 asked 7
                at(5, 40) = BEYOND
                """);
        book.edge(2, "anew: all are 0, fewer or more than there were", """
                fill 1: 5 6 7
                row(1, 2) = 2
                row 1 is 0 0
                row(1, 4) = 4
                row 1 is 0 0 0 0
                lay(1, 3, 9)
                row(1, 4) = 4
                row 1 is 0 0 0 0
                count(6) = 1
                """);
    }

    private static void lay() {
        book.edge(3, "BAD: a ROW that there is not", """
                lay(-1, 0, 1) = BAD
                lay(6, 0, 1) = BAD
                lay(MIN, 0, 1) = BAD
                lay(MAX, 0, 1) = BAD
                """);
        book.edge(3, "NOTHING, ahead of BEYOND", """
                lay(0, 0, 1) = NOTHING
                lay(0, -1, 1) = NOTHING
                lay(0, 99, 1) = NOTHING
                """);
        book.edge(3, "BEYOND, and nothing is laid", """
                fill 2: 4 5 6
                lay(2, -1, 9) = BEYOND
                lay(2, 3, 9) = BEYOND
                lay(2, MIN, 9) = BEYOND
                lay(2, MAX, 9) = BEYOND
                row 2 is 4 5 6
                """);
        book.edge(3, "BEYOND: of an empty ROW", """
                row(2, 0)
                lay(2, 0, 9) = BEYOND
                """);
        book.edge(3, "BEYOND: a place that was there before", """
                row(2, 9)
                row(2, 3)
                lay(2, 3, 9) = BEYOND
                """);
        book.edge(3, "the first and the last place", """
                row(0, 3)
                lay(0, 0, 8) = 1 asked 0
                lay(0, 2, 9) = 1 asked 0
                row 0 is 8 0 9
                """);
        book.edge(3, "the least and the greatest int", """
                row(0, 1)
                lay(0, 0, MIN) = 1 asked 0
                lay(0, 0, MAX) = 1 asked MIN
                lay(0, 0, -1) = 1 asked MAX
                row 0 is -1
                """);
    }

    private static void at() {
        book.edge(4, "BAD: a ROW that there is not", """
                at(-1, 0) = BAD
                at(6, 0) = BAD
                at(MIN, 0) = BAD
                at(MAX, 0) = BAD
                """);
        book.edge(4, "NOTHING, ahead of BEYOND", """
                at(0, 0) = NOTHING
                at(0, -1) = NOTHING
                at(0, 99) = NOTHING
                """);
        book.edge(4, "BEYOND", """
                fill 2: 4 5 6
                at(2, -1) = BEYOND
                at(2, 3) = BEYOND
                at(2, MIN) = BEYOND
                at(2, MAX) = BEYOND
                """);
        book.edge(4, "BEYOND: of an empty ROW", """
                row(2, 0)
                at(2, 0) = BEYOND
                """);
        book.edge(4, "the first and the last place; nothing is changed", """
                fill 5: MIN 5 MAX
                at(5, 0) = 1 asked MIN
                at(5, 2) = 1 asked MAX
                row 5 is MIN 5 MAX
                """);
    }

    private static void tear() {
        book.edge(5, "BAD: a ROW that there is not", """
                tear(-1) = BAD
                tear(6) = BAD
                tear(MIN) = BAD
                tear(MAX) = BAD
                """);
        book.edge(5, "NOTHING: never there; torn already", """
                tear(0) = NOTHING
                row(0, 2)
                tear(0) = 1
                tear(0) = NOTHING
                """);
        book.edge(5, "an empty and a full ROW; the others stay", """
                row(0, 0)
                row(1, 40)
                fill 2: 3
                count(6) = 3
                tear(0) = 1
                tear(1) = 1
                count(6) = 1
                row 2 is 3
                """);
        book.edge(5, "missing then for each call", """
                fill 0: 1 2
                tear(0) = 1
                lay(0, 0, 1) = NOTHING
                at(0, 0) = NOTHING
                copy(0, 0, 0, 0, 0) = NOTHING
                mean(0) = NOTHING
                other(0) = NOTHING
                row(0, 2) = 2
                row 0 is 0 0
                """);
    }

    private static void copy() {
        book.edge(6, "BAD: either ROW that there is not", """
                row(0, 3)
                copy(-1, 0, 0, 0, 1) = BAD
                copy(6, 0, 0, 0, 1) = BAD
                copy(0, 0, -1, 0, 1) = BAD
                copy(0, 0, 6, 0, 1) = BAD
                copy(MIN, 0, MAX, 0, 1) = BAD
                """);
        book.edge(6, "SIZE: n below 0", """
                row(0, 3)
                copy(0, 0, 0, 0, -1) = SIZE
                copy(0, 0, 0, 0, MIN) = SIZE
                """);
        book.edge(6, "BAD ahead of SIZE, SIZE of NOTHING, NOTHING of BEYOND", """
                copy(6, 0, 0, 0, -1) = BAD
                copy(0, 0, 1, 0, -1) = SIZE
                row(0, 3)
                copy(0, 9, 0, 9, -1) = SIZE
                copy(0, 9, 1, 0, 1) = NOTHING
                copy(1, 0, 0, 9, 1) = NOTHING
                """);
        book.edge(6, "NOTHING: the one it comes from, the one it comes to, both, though n is 0", """
                row(0, 3)
                copy(1, 0, 0, 0, 0) = NOTHING
                copy(0, 0, 1, 0, 0) = NOTHING
                copy(1, 0, 2, 0, 0) = NOTHING
                """);
        book.edge(6, "BEYOND: not so many there", """
                fill 0: 1 2 3
                fill 1: 7 8
                copy(0, 1, 1, 0, 3) = BEYOND
                copy(0, 2, 1, 0, 2) = BEYOND
                copy(0, 3, 1, 0, 1) = BEYOND
                copy(0, 0, 1, 0, 3) = BEYOND
                copy(0, 0, 1, 1, 2) = BEYOND
                copy(0, 0, 1, 2, 1) = BEYOND
                copy(0, -1, 1, 0, 1) = BEYOND
                copy(0, 0, 1, -1, 1) = BEYOND
                row 0 is 1 2 3
                row 1 is 7 8
                """);
        book.edge(6, "BEYOND, though a place and n together wrap around", """
                fill 0: 1 2 3
                copy(0, 1, 0, 0, MAX) = BEYOND
                copy(0, 0, 0, 1, MAX) = BEYOND
                copy(0, MAX, 0, 0, 1) = BEYOND
                copy(0, 0, 0, MAX, 1) = BEYOND
                copy(0, MAX, 0, MAX, MAX) = BEYOND
                copy(0, MIN, 0, 0, 1) = BEYOND
                copy(0, 0, 0, MIN, MAX) = BEYOND
                """);
        book.edge(6, "BEYOND of empty ROWS", """
                row(0, 0)
                row(1, 1)
                copy(0, 0, 1, 0, 1) = BEYOND
                copy(1, 0, 0, 0, 1) = BEYOND
                """);
        book.edge(6, "n 0: nothing comes, from any place up to the end", """
                fill 0: 1 2 3
                fill 1: 7
                row(2, 0)
                copy(0, 0, 1, 0, 0) = 1
                copy(0, 3, 1, 1, 0) = 1
                copy(2, 0, 2, 0, 0) = 1
                copy(0, 4, 1, 0, 0) = BEYOND
                copy(0, 0, 1, 2, 0) = BEYOND
                copy(0, -1, 1, 0, 0) = BEYOND
                row 0 is 1 2 3
                row 1 is 7
                """);
        book.edge(6, "a whole ROW of 40", """
                row(0, 40)
                lay(0, 0, 4)
                lay(0, 39, 5)
                row(5, 40)
                copy(0, 0, 5, 0, 40) = 1
                at(5, 0) = 1 asked 4
                at(5, 39) = 1 asked 5
                """);
        book.edge(6, "itself: as if taken ahead, to the right, to the left, where it is", """
                fill 0: 1 2 3 4 5
                copy(0, 0, 0, 1, 4) = 1
                row 0 is 1 1 2 3 4
                fill 0: 1 2 3 4 5
                copy(0, 1, 0, 0, 4) = 1
                row 0 is 2 3 4 5 5
                copy(0, 2, 0, 2, 3) = 1
                row 0 is 2 3 4 5 5
                """);
        book.edge(6, "the last place alone; the rest stays", """
                fill 0: 1 2 3
                fill 1: 7 8
                copy(0, 2, 1, 1, 1) = 1
                row 0 is 1 2 3
                row 1 is 7 3
                """);
    }

    private static void mean() {
        book.edge(7, "BAD: a ROW that there is not", """
                mean(-1) = BAD
                mean(6) = BAD
                mean(MIN) = BAD
                mean(MAX) = BAD
                """);
        book.edge(7, "NOTHING, then NOUGHT", """
                mean(0) = NOTHING
                row(0, 0)
                mean(0) = NOUGHT
                """);
        book.edge(7, "of one int", """
                fill 0: MIN
                mean(0) = 1 asked MIN
                fill 0: MAX
                mean(0) = 1 asked MAX
                """);
        book.edge(7, "cut, above and below 0", """
                fill 0: 1 2 2
                mean(0) = 1 asked 1
                fill 0: -1 -2 -2
                mean(0) = 1 asked -1
                fill 0: 0 -1
                mean(0) = 1 asked 0
                """);
        book.edge(7, "a sum that no int holds", """
                fill 0: MAX MAX MAX
                mean(0) = 1 asked MAX
                fill 0: MIN MIN
                mean(0) = 1 asked MIN
                fill 0: MAX 1
                mean(0) = 1 asked 1073741824
                fill 0: MIN MAX
                mean(0) = 1 asked 0
                """);
        StringBuilder forty = new StringBuilder("fill 3:");
        for (int i = 0; i < 40; i++) {
            forty.append(" MIN");
        }
        book.edge(7, "of 40 ints", forty + "\nmean(3) = 1 asked MIN");
    }

    private static void text() {
        book.edge(8, "BAD: a TEXT that there is not", """
                text(-1, 1) = BAD
                text(4, 1) = BAD
                text(MIN, 1) = BAD
                text(MAX, 1) = BAD
                """);
        book.edge(8, "BAD: n above 60", """
                write 0 [xy]
                text(0, 61) = BAD
                text(0, MAX) = BAD
                put(0, 1, 0) = 1121
                """);
        book.edge(8, "SIZE: n below 0", """
                write 0 [xy]
                text(0, -1) = SIZE
                text(0, MIN) = SIZE
                put(0, 1, 0) = 1121
                """);
        book.edge(8, "BAD ahead of SIZE", """
                text(-1, -1) = BAD
                text(4, MIN) = BAD
                """);
        book.edge(8, "n 0, n 60", """
                text(0, 0) = 0
                put(0, 0, 1) = BEYOND
                text(3, 60) = 60
                put(3, 0, 1) = 1032
                put(3, 59, 1) = 1032
                put(3, 60, 1) = BEYOND
                count(7) = 2
                """);
        book.edge(8, "anew: blanks, fewer or more than there were", """
                write 1 [xyz]
                text(1, 2) = 2
                put(1, 0, 120) = 1032
                put(1, 1, 121) = 1032
                text(1, 4) = 4
                put(1, 0, 0) = 1032
                put(1, 2, 0) = 1032
                put(1, 3, 0) = 1032
                count(7) = 1
                """);
    }

    private static void put() {
        book.edge(9, "BAD: a TEXT that there is not", """
                put(-1, 0, 1) = BAD
                put(4, 0, 1) = BAD
                put(MIN, 0, 1) = BAD
                put(MAX, 0, 1) = BAD
                """);
        book.edge(9, "NOTHING, ahead of BEYOND", """
                put(0, 0, 1) = NOTHING
                put(0, -1, 1) = NOTHING
                put(0, 99, 1) = NOTHING
                """);
        book.edge(9, "BEYOND", """
                write 2 [abc]
                put(2, -1, 9) = BEYOND
                put(2, 3, 9) = BEYOND
                put(2, MIN, 9) = BEYOND
                put(2, MAX, 9) = BEYOND
                text(2, 0)
                put(2, 0, 9) = BEYOND
                """);
        book.edge(9, "cut to a byte: what is within one", """
                text(0, 1)
                put(0, 0, 127) = 1032
                put(0, 0, -128) = 1127
                put(0, 0, -1) = 872
                put(0, 0, 0) = 999
                put(0, 0, 1) = 1000
                put(0, 0, 1) = 1001
                """);
        book.edge(9, "cut to a byte: what wraps around", """
                text(0, 1)
                put(0, 0, 128) = 1032
                put(0, 0, 255) = 872
                put(0, 0, 256) = 999
                put(0, 0, 383) = 1000
                put(0, 0, -129) = 1127
                put(0, 0, MAX) = 1127
                put(0, 0, MIN) = 999
                put(0, 0, 0) = 1000
                """);
        book.edge(9, "cut to a byte: a letter by 256 more is that letter", """
                write 0 [x00r00]
                put(0, 0, 370) = 1120
                fault(0) = NONE
                box(0) = 2
                """);
    }

    private static void fault() {
        book.edge(10, "BAD: a TEXT that there is not", """
                fault(-1) = BAD
                fault(4) = BAD
                fault(MIN) = BAD
                fault(MAX) = BAD
                """);
        book.edge(10, "NOTHING", """
                fault(0) = NOTHING
                fault(3) = NOTHING
                """);
        book.edge(10, "NONE: there is none; it is no FINDING", """
                write 3 [r00r00]
                fault(3) = NONE
                finding() = 0
                """);
        book.edge(10, "place 0, and the TEXT's size", """
                write 3 [x]
                fault(3) = 0
                text(3, 60)
                fault(3) = 60
                text(3, 0)
                fault(3) = 0
                """);
        book.edge(10, "by what the TEXT is now, not by what it was", """
                write 0 [r00r00]
                fault(0) = NONE
                put(0, 5, 120)
                fault(0) = 5
                put(0, 5, 57)
                fault(0) = NONE
                text(0, 6)
                fault(0) = 6
                """);
    }

    private static void box() {
        book.edge(11, "BAD: a TEXT that there is not", """
                box(-1) = BAD
                box(4) = BAD
                box(MIN) = BAD
                box(MAX) = BAD
                """);
        book.edge(11, "NOTHING; STATE: a FAULT", """
                box(0) = NOTHING
                text(0, 0)
                box(0) = STATE
                text(0, 60)
                box(0) = STATE
                """);
        book.edge(11, "what is refused leaves the BOX, its DEEDS, the kept ones", """
                box [r12w34b56]
                laid(2)
                over(0)
                keep(1)
                lift()
                write 1 [r00]
                box(1) = STATE
                box(2) = NOTHING
                box(4) = BAD
                count(0) = 3
                count(2) = 3
                on(1) = 2
                """);
        book.edge(11, "anew by the same TEXT: no DEEDS, none in THE FRAME, none OVER, none kept", """
                box [r12w34b56]
                laid(2)
                over(0)
                keep(0)
                keep(1)
                keep(2)
                box(0) = 3
                count(1) = 0
                count(2) = 0
                count(5) = 0
                count(8) = 0
                rod(0, 1) = 1 asked 1
                undo(1) = BAD
                on(0) = NOTHING
                on(1) = NOTHING
                on(2) = NOTHING
                """);
        book.edge(11, "anew with fewer and with more RODS", """
                box [r12w34b56t11s22d33w44]
                7 times over(6)
                write 3 [d98t76]
                box(3) = 2
                rod(0, 0) = 1 asked 5
                rod(1, 1) = 1 asked 7
                rod(1, 2) = 1 asked 6
                rod(2, 0) = BAD
                laid(2) = BAD
                count(9) = 0
                count(10) = 2
                box(0) = 7
                rod(6, 1) = 1 asked 4
                rod(6, 4) = 1 asked 0
                """);
        book.edge(11, "anew when FULL: 40 more DEEDS", """
                box [r12w34]
                40 times over(1)
                over(1) = FULL
                box(0) = 2
                40 times over(1)
                over(1) = FULL
                """);
        book.edge(11, "a BOX stays when its TEXT is changed", """
                box [r12w34]
                text(0, 0)
                count(0) = 2
                rod(1, 0) = 1 asked 1
                """);
        book.edge(11, "what was told and found stays", """
                write 0 [r12w34]
                row(0, -1)
                row(0, 1)
                lay(0, 0, 5)
                at(0, 0)
                box(0) = 2
                asked() = 5
                finding() = 5
                findings(5) = 1
                row 0 is 5
                """);
    }

    private static void rod() {
        book.edge(12, "BAD: a ROD that there is not", """
                rod(0, 0) = BAD
                box [r12w34]
                rod(-1, 0) = BAD
                rod(2, 0) = BAD
                rod(6, 0) = BAD
                rod(MIN, 0) = BAD
                rod(MAX, 0) = BAD
                """);
        book.edge(12, "BAD: what is none of 0 .. 4", """
                box [r12w34]
                rod(0, -1) = BAD
                rod(0, 5) = BAD
                rod(0, MIN) = BAD
                rod(0, MAX) = BAD
                """);
        book.edge(12, "of the first and of the seventh", """
                box [r12w34b56t11s22d33w44]
                rod(0, 2) = 1 asked 2
                rod(6, 0) = 1 asked 1
                rod(6, 2) = 1 asked 4
                rod(7, 0) = BAD
                """);
        book.edge(12, "its place: NONE, 0 the left one, 6 the right one, NONE again", """
                box [r12w34b56t11s22d33w44]
                rod(6, 3) = 1 asked NONE
                laid(6)
                rod(6, 3) = 1 asked 0
                laid(5)
                laid(4)
                laid(3)
                laid(2)
                laid(1)
                laid(0)
                rod(0, 3) = 1 asked 6
                rod(6, 3) = 1 asked 0
                change(0, 6)
                rod(6, 3) = 1 asked 6
                lift()
                rod(6, 3) = 1 asked NONE
                """);
        book.edge(12, "its DIGIT now and whether it is OVER", """
                box [r92w04]
                over(0)
                over(1)
                rod(0, 1) = 1 asked 0
                rod(1, 1) = 1 asked 9
                rod(0, 4) = 1 asked 1
                over(0)
                rod(0, 1) = 1 asked 9
                rod(0, 4) = 1 asked 0
                """);
    }

    private static void marks(String sentence, String rod, int kind, int want) {
        book.edge(13, rod + ", " + sentence, "box [r00" + rod + "]\nmark(1, " + kind + ") = " + want);
    }

    private static void mark() {
        book.edge(13, "BAD: a ROD that there is not", """
                mark(0, 1) = BAD
                box [w12w34]
                mark(-1, 1) = BAD
                mark(2, 1) = BAD
                mark(MIN, 1) = BAD
                mark(MAX, 1) = BAD
                """);
        book.edge(13, "BAD: KIND 0, and what is no KIND", """
                box [w12r34]
                mark(0, 0) = BAD
                mark(1, 0) = BAD
                mark(0, -1) = BAD
                mark(0, 6) = BAD
                mark(0, MIN) = BAD
                mark(0, MAX) = BAD
                """);
        book.edge(13, "BAD ahead of UNLIKE", """
                box [r12r34]
                mark(2, 1) = BAD
                mark(0, 6) = BAD
                mark(0, 1) = UNLIKE
                """);
        book.edge(13, "UNLIKE: each KIND that a ROD is not", """
                box [r11w11t11s11b11d11]
                mark(0, 1) = UNLIKE
                mark(0, 2) = UNLIKE
                mark(0, 3) = UNLIKE
                mark(0, 4) = UNLIKE
                mark(0, 5) = UNLIKE
                mark(1, 2) = UNLIKE
                mark(1, 3) = UNLIKE
                mark(1, 4) = UNLIKE
                mark(1, 5) = UNLIKE
                mark(2, 1) = UNLIKE
                mark(2, 3) = UNLIKE
                mark(2, 4) = UNLIKE
                mark(2, 5) = UNLIKE
                mark(3, 1) = UNLIKE
                mark(3, 2) = UNLIKE
                mark(3, 4) = UNLIKE
                mark(3, 5) = UNLIKE
                mark(4, 2) = UNLIKE
                mark(4, 3) = UNLIKE
                mark(4, 5) = UNLIKE
                mark(5, 1) = UNLIKE
                mark(5, 3) = UNLIKE
                mark(5, 4) = UNLIKE
                findings(3) = 23
                """);
        marks("MARK 0: less in no LINE", "w90", 1, 0);
        marks("no tens in LINE 1", "w91", 1, 0);
        marks("tens in LINE 9", "w99", 1, 1);
        marks("just 10 is less without its tens", "w52", 1, 1);
        marks("9 has no tens", "w33", 1, 0);
        marks("DIGIT 0", "w09", 1, 0);
        marks("a BENT one is WORN, MARK 0", "b90", 1, 0);
        marks("a BENT one is WORN, MARK 9: all but LINE 1", "b99", 1, 8);
        marks("a BENT one is WORN, no tens anywhere", "b19", 1, 0);
        marks("a BENT one is WORN, LINES 4, 6 .. 9", "b94", 1, 5);
        marks("a BENT one is WORN, LINES 5 .. 9", "b95", 1, 5);
        marks("4 turned is 5", "t40", 2, 9);
        marks("5 turned is 4", "t50", 2, 0);
        marks("0 turned is 9", "t00", 2, 9);
        marks("9 turned is 0", "t90", 2, 0);
        marks("a DOUBLED one is TURNED, MARK 0", "d40", 2, 0);
        marks("a DOUBLED one is TURNED, MARK 1", "d41", 2, 0);
        marks("a DOUBLED one is TURNED, MARK 2", "d42", 2, 1);
        marks("a DOUBLED one is TURNED, MARK 9", "d49", 2, 8);
        marks("a DOUBLED one is TURNED, never more", "d59", 2, 0);
        marks("MARK 0: 500", "s90", 3, 500);
        marks("MARK 1", "s91", 3, 509);
        marks("MARK 8", "s98", 3, 509);
        marks("MARK 9: less, as LINE 9 is LINE 1", "s99", 3, 428);
        marks("MARK 9, DIGIT 0", "s09", 3, 500);
        marks("than a WORN one, MARK 0", "b90", 4, 0);
        marks("than a WORN one, MARK 1: LINE 9", "b91", 4, 1);
        marks("than a WORN one, MARK 4: LINES 6 .. 9", "b94", 4, 4);
        marks("than a WORN one, MARK 5: LINES 6 .. 9", "b95", 4, 4);
        marks("than a WORN one, MARK 9: LINES 2 .. 8", "b99", 4, 7);
        marks("than a WORN one, no tens anywhere", "b19", 4, 0);
        marks("not as a TURNED one, MARK 0", "d40", 5, 9);
        marks("not as a TURNED one, MARK 1", "d51", 5, 9);
        marks("not as a TURNED one, MARK 2", "d92", 5, 8);
        marks("not as a TURNED one, MARK 9", "d09", 5, 1);
        book.edge(13, "now: what is OVER", """
                box [w19t40s19b19d49]
                over(0)
                over(1)
                over(2)
                over(3)
                over(4)
                mark(0, 1) = 1
                mark(1, 2) = 0
                mark(2, 3) = 436
                mark(3, 1) = 8
                mark(3, 4) = 7
                mark(4, 2) = 0
                mark(4, 5) = 1
                """);
    }

    private static void shows() {
        book.edge(14, "BAD: a ROD that there is not", """
                shows(0, 1) = BAD
                box [w12w34]
                shows(-1, 1) = BAD
                shows(2, 1) = BAD
                shows(6, 1) = BAD
                shows(MIN, 1) = BAD
                shows(MAX, 1) = BAD
                """);
        book.edge(14, "BAD: a LINE that there is not", """
                box [w12w34]
                shows(0, 0) = BAD
                shows(0, 10) = BAD
                shows(0, -1) = BAD
                shows(0, MIN) = BAD
                shows(0, MAX) = BAD
                """);
        book.edge(14, "the first and the last LINE of the first and the seventh ROD", """
                box [r90r10r10r10r10r10r90]
                shows(0, 1) = 9
                shows(6, 9) = 81
                shows(7, 9) = BAD
                """);
        book.edge(14, "in THE FRAME and in THE BOX alike", """
                box [r90r10]
                shows(0, 9) = 81
                laid(0)
                shows(0, 9) = 81
                over(0)
                shows(0, 9) = 0
                """);
    }
}
