import java.math.BigInteger;

/** The boundary cases of promises 32 to 35. */
public final class EdgesOfChancesTest {
    private static final Script.Book book = new Script.Book();
    private static final String ALL_SEVEN = "laid(0)\nlaid(1)\nlaid(2)\nlaid(3)\nlaid(4)\nlaid(5)\nlaid(6)\n";

    public static void main(String[] args) {
        duel();
        badOf(33, "odds");
        odds();
        badOf(34, "mid");
        mid();
        lots();
        lotsOfBigSeeds();
        book.end("EdgesOfChancesTest", 32, 35);
    }

    private static void duel() {
        book.edge(32, "BAD: turns below 0, above 5", """
                box [r10r20]
                duel(-1, 1) = BAD
                duel(6, 1) = BAD
                duel(MIN, 1) = BAD
                duel(MAX, 1) = BAD
                """);
        book.edge(32, "BAD: a LINE that there is not", """
                box [r10r20]
                duel(1, 0) = BAD
                duel(1, 10) = BAD
                duel(1, -1) = BAD
                duel(1, MIN) = BAD
                duel(1, MAX) = BAD
                """);
        book.edge(32, "STATE: no RODS; behind BAD", """
                duel(0, 1) = STATE
                duel(5, 9) = STATE
                duel(-1, 1) = BAD
                duel(6, 1) = BAD
                duel(0, 0) = BAD
                duel(0, 10) = BAD
                """);
        book.edge(32, "0 turns: what is READ OFF as it is", """
                box [r10r20]
                duel(0, 9) = 0
                laid(1)
                duel(0, 9) = 18
                """);
        book.edge(32, "1 and 5 turns of seven RODS", """
                box [r10r20r30r40r50r60r70]
                duel(1, 1) = 7
                duel(2, 1) = 71
                duel(3, 1) = 716
                duel(4, 1) = 7162
                duel(5, 1) = 71625
                """);
        book.edge(32, "while there is one: more turns than RODS in THE BOX", """
                box [r10r20]
                duel(2, 1) = 21
                duel(3, 1) = 21
                duel(5, 1) = 21
                laid(0)
                duel(1, 1) = 12
                duel(5, 1) = 12
                """);
        book.edge(32, "none is in THE BOX", "box [r10r20r30r40r50r60r70]\n" + ALL_SEVEN + """
                duel(0, 9) = 11111103
                duel(5, 9) = 11111103
                """);
        book.edge(32, "behind those in THE FRAME, as many as there are, by LINE 9", """
                box [r90r90r90r90r90r90r90]
                laid(0)
                laid(1)
                duel(5, 9) = 89999991
                """);
        book.edge(32, "0 is the most: noughts alone", """
                box [r00r00]
                duel(1, 9) = 0
                duel(5, 9) = 0
                """);
        book.edge(32, "nothing is done, what was told stays", """
                box [r10r20]
                rod(1, 1) = 1 asked 2
                duel(5, 1) = 21
                count(1) = 0
                count(2) = 0
                asked() = 2
                """);
        book.edge(32, "by what they SHOW, carried or not, not by their DIGITS", """
                box [r10s90t00]
                # LINE 8 SHOWS 8, 81, 72: 81 first leaves 8 to the other one, then 72
                duel(3, 8) = 8252
                duel(2, 8) = 818
                """);
    }

    /** The same sentences stand for odds() and mid(). */
    private static void badOf(int promise, String call) {
        book.edge(promise, call + " BAD: a LINE that there is not", """
                box [r10r20]
                CALL(0, 1) = BAD
                CALL(10, 1) = BAD
                CALL(-1, 1) = BAD
                CALL(MIN, 1) = BAD
                CALL(MAX, 1) = BAD
                """.replace("CALL", call));
        book.edge(promise, call + " BAD: p below 0, above 12", """
                box [r10r20]
                laid(0)
                CALL(1, 1)
                CALL(1, -1) = BAD
                CALL(1, 13) = BAD
                CALL(1, MIN) = BAD
                CALL(1, MAX) = BAD
                """.replace("CALL", call));
        book.edge(promise, call + " STATE: no RODS; behind BAD", """
                CALL(1, 0) = STATE
                CALL(9, 12) = STATE
                CALL(0, 0) = BAD
                CALL(10, 0) = BAD
                CALL(1, -1) = BAD
                CALL(1, 13) = BAD
                upper() = 0
                lower() = 1
                """.replace("CALL", call));
    }

    private static void odds() {
        book.edge(33, "nothing in THE FRAME: 0 is half of 0, always", """
                box [r10r20]
                odds(1, 0) = 1 by 1/1
                odds(9, 12) = 1 by 1/1
                odds(5, 5) = 1 by 1/1
                """);
        book.edge(33, "p 0: none falls out; p 12: all do", """
                box [r10r20]
                laid(0)
                laid(1)
                odds(1, 0) = 1 by 1/1
                odds(1, 12) = 1 by 0/1
                """);
        book.edge(33, "0 is RIGHT: enough, though all fall out", """
                box [r00r00]
                laid(0)
                laid(1)
                odds(9, 12) = 1 by 1/1
                odds(9, 7) = 1 by 1/1
                """);
        book.edge(33, "never enough, though none falls out", """
                box [t70r00]
                laid(0)
                odds(1, 0) = 1 by 0/1
                odds(1, 6) = 1 by 0/1
                """);
        book.edge(33, "just half is enough", """
                box [t60r00]
                laid(0)
                odds(4, 6) = 1 by 1/2
                odds(4, 11) = 1 by 1/12
                odds(4, 1) = 1 by 11/12
                """);
        book.edge(33, "half of 19 is not cut: 9 is less, 10 is enough", """
                box [r10r90]
                laid(0)
                laid(1)
                odds(1, 6) = 1 by 1/2
                odds(1, 3) = 1 by 3/4
                """);
        book.edge(33, "either alone is enough, both are needed", """
                box [r10s90t60r90]
                laid(0)
                laid(1)
                odds(8, 1) = 1 by 143/144
                odds(8, 6) = 1 by 3/4
                lift()
                lift()
                laid(2)
                laid(3)
                odds(1, 6) = 1 by 1/4
                odds(1, 1) = 1 by 121/144
                """);
        book.edge(33, "seven in THE FRAME, all needed: 11 by 12, seven times",
                "box [t60t60t60t60t60t60t60]\n" + ALL_SEVEN + """
                odds(9, 1) = 1 by 19487171/35831808
                odds(9, 11) = 1 by 1/35831808
                odds(9, 0) = 1 by 1/1
                """);
        book.edge(33, "seven in THE FRAME, each alone is enough",
                "box [t00t00t00t00t00t00r10]\n" + ALL_SEVEN + """
                odds(1, 1) = 1 by 35831807/35831808
                odds(1, 6) = 1 by 127/128
                """);
        book.edge(33, "those in THE BOX don't count; what is OVER is RIGHT as it lies", """
                box [r00t30]
                over(1)
                laid(1)
                # 6 turned SHOWS 3
                odds(1, 4) = 1 by 2/3
                over(1)
                # 3 turned SHOWS 6
                odds(1, 4) = 1 by 2/3
                """);
    }

    private static void mid() {
        book.edge(34, "nothing in THE FRAME: 0 by 1", """
                box [r10r20]
                mid(1, 0) = 1 by 0/1
                mid(9, 12) = 1 by 0/1
                mid(9, 5) = 1 by 0/1
                """);
        book.edge(34, "p 0: all of it; p 12: nothing", """
                box [r10r20]
                laid(0)
                laid(1)
                mid(9, 0) = 1 by 108/1
                mid(9, 12) = 1 by 0/1
                """);
        book.edge(34, "noughts alone: 0 by 1", """
                box [r00r00]
                laid(0)
                laid(1)
                mid(9, 1) = 1 by 0/1
                """);
        book.edge(34, "p 1 and p 11, in lowest terms", """
                box [r10r20]
                laid(0)
                mid(1, 1) = 1 by 11/12
                mid(1, 11) = 1 by 1/12
                mid(6, 11) = 1 by 1/2
                mid(8, 11) = 1 by 2/3
                mid(1, 4) = 1 by 2/3
                """);
        book.edge(34, "seven nines by LINE 9", "box [r90r90r90r90r90r90r90]\n" + ALL_SEVEN + """
                mid(9, 0) = 1 by 89999991/1
                mid(9, 1) = 1 by 329999967/4
                mid(9, 11) = 1 by 29999997/4
                """);
        book.edge(34, "by what is SHOWN, carried over or not", """
                box [w73r70]
                laid(0)
                laid(1)
                # LINE 3 SHOWS 1 and 21
                mid(3, 0) = 1 by 31/1
                mid(3, 6) = 1 by 31/2
                """);
    }

    private static void lots() {
        book.edge(35, "BAD: n below 1, above 20", """
                box [r10r20r30]
                lots(0, 1) = BAD
                lots(21, 1) = BAD
                lots(-1, 1) = BAD
                lots(MIN, 1) = BAD
                lots(MAX, 1) = BAD
                """);
        book.edge(35, "BAD: a seed below 1, above 2147483646", """
                box [r10r20r30]
                lots(1, 0) = BAD
                lots(1, -1) = BAD
                lots(1, MIN) = BAD
                lots(1, MAX) = BAD
                """);
        book.edge(35, "STATE: no RODS; behind BAD", """
                lots(1, 1) = STATE
                lots(20, 2147483646) = STATE
                lots(0, 1) = BAD
                lots(21, 1) = BAD
                lots(1, 0) = BAD
                lots(1, MAX) = BAD
                """);
        book.edge(35, "FULL last: more than 40 DEEDS; none of them is done", """
                box [r10r20r30]
                21 times over(0)
                lots(20, 1) = FULL
                lots(21, 1) = BAD
                lots(20, 0) = BAD
                lots(20, MAX) = BAD
                count(2) = 21
                lots(19, 1)
                count(2) = 40
                lots(1, 1) = FULL
                lots(20, 1) = FULL
                """);
        book.edge(35, "20 at once, 20 more: just 40", """
                box [r10r20r30]
                lots(20, 1)
                count(2) = 20
                lots(20, 1)
                count(2) = 40
                undo(0) = 40
                count(1) = 0
                count(5) = 0
                """);
        book.edge(35, "the least seed: 48271, 3 modulo 4, ROD 6033 modulo 3: turned OVER", """
                box [r10r20r30]
                lots(1, 1) = 0
                count(5) = 1
                count(2) = 1
                """);
        book.edge(35, "the greatest seed: 2147435376, 0 modulo 4, ROD 268429422 modulo 7: LAID", """
                box [r10r20r30r40r50r60r70]
                lots(1, 2147483646) = 3
                count(4) = 4
                """);
        book.edge(35, "1 modulo 4: LAID, too (3 comes to 144813, ROD 18101 modulo 3)", """
                box [r10r20r30]
                lots(1, 3) = 3
                count(4) = 4
                """);
        book.edge(35, "it can't be LAID, none to be LIFTED: DEEDS of nothing, undone alike", """
                box [r10r20r30]
                lots(1, 2) = 0
                count(2) = 1
                lots(1, 4) = 1
                lots(1, 4) = 1
                count(1) = 1
                count(2) = 3
                undo(2) = 1
                count(1) = 1
                undo(1) = 1
                count(1) = 0
                undo(0) = 1
                """);
        book.edge(35, "the last one is LIFTED, not the one of the LOT (2 comes to 96542, ROD 12067 modulo 3)", """
                box [r10r20r30]
                laid(1)
                laid(0)
                lots(1, 2) = 2
                count(4) = 2
                """);
        book.edge(35, "a number from the one ahead: LAID, nothing, LIFTED", """
                box [r10r20r30]
                # 193084, 730423176, 870612250
                lots(3, 4) = 0
                count(2) = 3
                undo(2) = 1
                count(4) = 1
                undo(1) = 1
                count(4) = 1
                undo(0) = 1
                count(4) = 0
                """);
        book.edge(35, "what is READ OFF by LINE 1: of a TURNED one that is OVER", """
                box [t10r20r30]
                lots(1, 1) = 0
                lots(1, 4) = 1
                rod(0, 1) = 1 asked 8
                """);
        book.edge(35, "with two RODS and with seven", """
                box [r10r20]
                # 2147435376, 1964877853, 856088761: ROD 0 LAID, ROD 1 LAID, ROD 1 is in it
                lots(3, 2147483646) = 12
                count(2) = 3
                box [r10r20r30r40r50r60r70]
                # RODS 2, 3, 2
                lots(3, 2147483646) = 34
                count(2) = 3
                """);
    }

    /** Products that no int holds: each number set beside one of BigInteger, for 20 numbers of many seeds. */
    private static void lotsOfBigSeeds() {
        for (long seed = 1; seed <= 2147483646L; seed = seed * 7 + 5) {
            overOnly((int) seed);
            overOnly((int) (2147483647L - seed));
        }
    }

    private static void overOnly(int seed) {
        BoneRods x = Check.withBox("r10r20r30r40r50r60r70");
        x.lots(20, seed);
        BigInteger lot = BigInteger.valueOf(seed);
        int overs = 0;
        for (int d = 0; d < 20; d++) {
            lot = lot.multiply(BigInteger.valueOf(48271)).mod(BigInteger.valueOf(2147483647));
            if (lot.intValueExact() % 4 == 3) {
                overs ^= 1 << lot.intValueExact() / 8 % 7;
            }
        }
        book.due(35, "lots(20, " + seed + "): those OVER", x.count(5), overs);
    }
}
