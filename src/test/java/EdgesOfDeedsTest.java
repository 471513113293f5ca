/** The boundary cases of promises 15 to 21. */
public final class EdgesOfDeedsTest {
    private static final Script.Book book = new Script.Book();

    public static void main(String[] args) {
        laid();
        lift();
        change();
        over();
        undo();
        keep();
        on();
        book.end("EdgesOfDeedsTest", 15, 21);
    }

    private static void laid() {
        book.edge(15, "BAD: a ROD that there is not", """
                laid(0) = BAD
                box [r10r20]
                laid(-1) = BAD
                laid(2) = BAD
                laid(6) = BAD
                laid(MIN) = BAD
                laid(MAX) = BAD
                """);
        book.edge(15, "STATE: it is in THE FRAME", """
                box [r10r20]
                laid(1) = 1
                laid(1) = STATE
                laid(0) = 2
                laid(0) = STATE
                laid(1) = STATE
                """);
        book.edge(15, "FULL last: behind BAD and STATE", """
                box [r10r20]
                laid(1)
                39 times over(0)
                laid(2) = BAD
                laid(1) = STATE
                laid(0) = FULL
                count(1) = 1
                """);
        book.edge(15, "the 40th DEED", """
                box [r10r20]
                39 times over(0)
                laid(1) = 1
                count(2) = 40
                """);
        book.edge(15, "all seven, at the right end each", """
                box [r10r20r30r40r50r60r70]
                laid(6) = 1
                laid(5) = 2
                laid(4) = 3
                laid(3) = 4
                laid(2) = 5
                laid(1) = 6
                laid(0) = 7
                reads(1) = 7654321 asked 7654321
                laid(0) = STATE
                laid(7) = BAD
                """);
        book.edge(15, "LIFTED and LAID again", """
                box [r10r20]
                laid(0) = 1
                lift() = 0
                laid(0) = 1
                count(2) = 3
                """);
    }

    private static void lift() {
        book.edge(16, "STATE: without RODS; none is in THE FRAME", """
                lift() = STATE
                box [r10r20]
                lift() = STATE
                laid(1)
                lift() = 1
                lift() = STATE
                """);
        book.edge(16, "FULL last: behind STATE", """
                box [r10r20]
                40 times over(0)
                lift() = STATE
                """);
        book.edge(16, "FULL", """
                box [r10r20]
                laid(1)
                39 times over(0)
                lift() = FULL
                count(1) = 1
                """);
        book.edge(16, "the 40th DEED", """
                box [r10r20]
                laid(1)
                38 times over(0)
                lift() = 1
                count(2) = 40
                """);
        book.edge(16, "all seven, the last one first", """
                box [r10r20r30r40r50r60r70]
                laid(3)
                laid(5)
                laid(0)
                laid(6)
                laid(1)
                laid(4)
                laid(2)
                lift() = 2
                lift() = 4
                lift() = 1
                lift() = 6
                lift() = 0
                lift() = 5
                lift() = 3
                lift() = STATE
                count(2) = 14
                """);
        book.edge(16, "the last one after a change of places", """
                box [r10r20]
                laid(0)
                laid(1)
                change(0, 1)
                lift() = 0
                """);
    }

    private static void change() {
        book.edge(17, "BAD: without RODS; none, or one alone, in THE FRAME", """
                change(0, 1) = BAD
                box [r10r20r30]
                change(0, 1) = BAD
                laid(2)
                change(0, 1) = BAD
                change(1, 0) = BAD
                """);
        book.edge(17, "BAD: two alike", """
                box [r10r20r30]
                laid(2)
                laid(0)
                change(0, 0) = BAD
                change(1, 1) = BAD
                change(-1, -1) = BAD
                """);
        book.edge(17, "BAD: places that hold none, though there are so many RODS", """
                box [r10r20r30]
                laid(2)
                laid(0)
                change(0, 2) = BAD
                change(2, 0) = BAD
                change(-1, 0) = BAD
                change(0, -1) = BAD
                change(MIN, 0) = BAD
                change(0, MAX) = BAD
                """);
        book.edge(17, "BAD: a place from which one was LIFTED", """
                box [r10r20r30]
                laid(2)
                laid(0)
                lift()
                change(0, 1) = BAD
                """);
        book.edge(17, "FULL last: behind BAD", """
                box [r10r20r30]
                laid(2)
                laid(0)
                38 times over(0)
                change(0, 2) = BAD
                change(1, 1) = BAD
                change(0, 1) = FULL
                reads(1) = 31
                """);
        book.edge(17, "the 40th DEED", """
                box [r10r20r30]
                laid(2)
                laid(0)
                37 times over(1)
                change(0, 1) = 0
                count(2) = 40
                """);
        book.edge(17, "the first and the last of seven; the one at the place told first", """
                box [r10r20r30r40r50r60r70]
                laid(0)
                laid(1)
                laid(2)
                laid(3)
                laid(4)
                laid(5)
                laid(6)
                change(0, 6) = 6
                reads(1) = 7234561 asked 7234561
                change(6, 0) = 6
                reads(1) = 1234567 asked 1234567
                change(0, 7) = BAD
                """);
    }

    private static void over() {
        book.edge(18, "BAD: a ROD that there is not", """
                over(0) = BAD
                box [r10r20]
                over(-1) = BAD
                over(2) = BAD
                over(6) = BAD
                over(MIN) = BAD
                over(MAX) = BAD
                """);
        book.edge(18, "FULL last: behind BAD", """
                box [r10r20]
                40 times over(0)
                over(2) = BAD
                over(-1) = BAD
                over(0) = FULL
                over(1) = FULL
                rod(0, 1) = 1 asked 1
                """);
        book.edge(18, "the 40th DEED", """
                box [r10r20]
                39 times over(0)
                over(1) = 7
                count(2) = 40
                """);
        book.edge(18, "DIGIT 0, DIGIT 9, and back", """
                box [r00r90]
                over(0) = 9
                over(1) = 0
                over(0) = 0
                over(1) = 9
                """);
        book.edge(18, "wherever it is: it stays OVER when LAID and LIFTED", """
                box [r10r20r30r40r50r60r70]
                over(6) = 2
                laid(6)
                reads(1) = 2 asked 2
                over(6) = 7
                reads(1) = 7 asked 7
                over(6) = 2
                lift()
                rod(6, 1) = 1 asked 2
                count(5) = 64
                """);
    }

    private static void undo() {
        book.edge(19, "BAD: below 0, more than there are", """
                undo(-1) = BAD
                undo(1) = BAD
                box [r10r20]
                over(0)
                laid(0)
                undo(-1) = BAD
                undo(3) = BAD
                undo(MIN) = BAD
                undo(MAX) = BAD
                count(2) = 2
                """);
        book.edge(19, "none: without RODS, without DEEDS, from the end on", """
                undo(0) = 0
                box [r10r20]
                undo(0) = 0
                over(0)
                undo(1) = 0
                count(2) = 1
                count(5) = 1
                """);
        book.edge(19, "all 40, and 40 more can be done", """
                box [r10r20]
                40 times over(0)
                undo(40) = 0
                undo(41) = BAD
                undo(0) = 40
                count(2) = 0
                40 times over(0)
                over(0) = FULL
                """);
        book.edge(19, "the 40th alone: one more can be done", """
                box [r10r20]
                40 times over(0)
                undo(39) = 1
                laid(1) = 1
                laid(0) = FULL
                """);
        book.edge(19, "what was undone is gone", """
                box [r10r20]
                laid(0)
                laid(1)
                undo(1) = 1
                undo(2) = BAD
                undo(1) = 0
                laid(1) = 2
                undo(0) = 2
                """);
        book.edge(19, "back along each way, also DEEDS of nothing", """
                box [r10r20r30]
                laid(2)
                laid(0)
                change(0, 1)
                over(2)
                lift()
                lift()
                # 2 comes to 96542: LIFTED, but there is none
                lots(1, 2) = 0
                undo(6) = 1
                count(1) = 0
                undo(5) = 1
                reads(1) = 1
                undo(4) = 1
                reads(1) = 16
                undo(3) = 1
                reads(1) = 13
                undo(2) = 1
                reads(1) = 31
                undo(0) = 2
                reads(1) = 0
                """);
        book.edge(19, "the BOX is as told at first: kept ones stay", """
                box [r10r20]
                laid(0)
                keep(0)
                undo(0) = 1
                on(0) = 1
                """);
    }

    private static void keep() {
        book.edge(20, "BAD: a place that there is not", """
                box [r10r20]
                keep(-1) = BAD
                keep(3) = BAD
                keep(MIN) = BAD
                keep(MAX) = BAD
                count(8) = 0
                """);
        book.edge(20, "STATE: no RODS; behind BAD", """
                keep(0) = STATE
                keep(2) = STATE
                keep(3) = BAD
                keep(-1) = BAD
                count(8) = 0
                """);
        book.edge(20, "none and 40 DEEDS", """
                box [r10r20]
                keep(0) = 0
                40 times over(0)
                keep(2) = 40
                count(8) = 2
                undo(0)
                on(2) = 40
                over(0) = FULL
                on(0) = 0
                over(0) = 8
                """);
        book.edge(20, "in the same place anew", """
                box [r10r20]
                laid(0)
                keep(1) = 1
                laid(1)
                keep(1) = 2
                count(8) = 1
                undo(0)
                on(1) = 2
                reads(1) = 12
                """);
        book.edge(20, "what is kept stays as it was kept", """
                box [r10r20]
                laid(0)
                over(1)
                keep(0) = 2
                laid(1)
                change(0, 1)
                over(0)
                on(0) = 2
                reads(1) = 1
                count(5) = 2
                undo(1) = 1
                count(5) = 0
                """);
    }

    private static void on() {
        book.edge(21, "BAD: a place that there is not", """
                box [r10r20]
                on(-1) = BAD
                on(3) = BAD
                on(MIN) = BAD
                on(MAX) = BAD
                """);
        book.edge(21, "NOTHING: without RODS; nothing is kept there", """
                on(0) = NOTHING
                box [r10r20]
                laid(0)
                keep(1)
                on(0) = NOTHING
                on(2) = NOTHING
                on(1) = 1
                """);
        book.edge(21, "NOTHING: the BOX was told anew", """
                box [r10r20]
                keep(1)
                on(1) = 0
                box(0) = 2
                on(1) = NOTHING
                """);
        book.edge(21, "as often as wanted; DEEDS done since are gone", """
                box [r10r20]
                laid(1)
                keep(2)
                laid(0)
                on(2) = 1
                undo(2) = BAD
                laid(0)
                over(0)
                on(2) = 1
                count(1) = 1
                count(2) = 1
                count(5) = 0
                count(8) = 1
                """);
        book.edge(21, "the kept DEEDS can be undone, though others were done in their stead", """
                box [r10r20r30]
                laid(0)
                laid(1)
                change(0, 1)
                keep(0)
                undo(0)
                over(2)
                over(1)
                over(2)
                on(0) = 3
                reads(1) = 21
                undo(2) = 1
                reads(1) = 12
                undo(1) = 1
                reads(1) = 1
                undo(0) = 1
                count(1) = 0
                count(5) = 0
                """);
        book.edge(21, "the same DEEDS, done with other RODS, in other places", """
                box [r10r20r30]
                over(0)
                laid(0)
                laid(1)
                laid(2)
                change(0, 2)
                lift()
                keep(0)
                undo(0)
                over(1)
                laid(2)
                laid(0)
                laid(1)
                change(1, 0)
                lift()
                on(0) = 6
                reads(1) = 32
                undo(5) = 1
                reads(1) = 328
                undo(4) = 1
                reads(1) = 823
                undo(1) = 3
                count(5) = 1
                undo(0) = 1
                count(5) = 0
                """);
        book.edge(21, "from FULL to what has room, and back", """
                box [r10r20]
                keep(0)
                40 times over(1)
                keep(1)
                laid(0) = FULL
                on(0) = 0
                laid(0) = 1
                on(1) = 40
                laid(0) = FULL
                """);
        book.edge(21, "ROWS and TEXTS, what was told and found stay", """
                box [r10r20]
                keep(0)
                fill 3: 6
                text(2, 0)
                at(3, 0)
                mid(1, 0) = 1 by 0/1
                row(1, -1)
                on(0) = 0
                asked() = 6
                finding() = 5
                count(6) = 1
                count(7) = 2
                row 3 is 6
                """);
    }
}
