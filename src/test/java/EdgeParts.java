/** The words of the parts 2 to 4: what stands, plans, seen, chance, lives; and of refusals. */
final class EdgeParts {
    private static final String EIGHT_EVENTS = "times 6 event 2 23 9, event 1 0 0, event 0 0 0";
    private final Edges e;

    EdgeParts(Edges e) {
        this.e = e;
    }

    void all() {
        whatStands();
        sums();
        where();
        move();
        drop();
        clean();
        spare();
        seen();
        instead();
        ask();
        chance();
        lives();
        refusals();
    }

    private void edge(String sentence, String... runs) {
        e.edge(0, sentence, runs);
    }

    private void whatStands() {
        edge("CLASH of two TALES: 1, 0.", "tell 0 a00s;a10s;b00s, clash 0 1 = 1, clash 0 2 = 0, clash 2 1 = 0");
        edge("Of a TALE: whether it COUNTS; what it WEIGHS;",
            "tell 0 a00s;a10s, stands 0 0 = 1, stands 0 1 = 3, stands 1 0..1 = 0");
        edge("the least one ahead that COUNTS with which it CLASHES; NONE.",
            "tell 0 a00s;b00s;b50s, stands 0..1 2 = -1, stands 2 2 = 0, event 1 0 0, stands 2 2 = 1, event 1 1 0, stands 2 2 = -1",
            "tell 0 a00s;a10s;a30s, stands 1..2 2 = 0", "tell 0 " + "a00s;".repeat(10) + "a01s;a71k, stands 11 2 = 10",
            // By an event alone it does not count; its clash is told all the same.
            "tell 0 a00s;a20s, event 1 0 2, stands 1 0 = 0, stands 1 2 = 0");
        edge("Of the MAN in a TOWN behind a NIGHT: STANDING (0: there is none); RANK.",
            "tell 0 b00d, man 0 0 0..1 = 0, man 1 0 0..1 = 1, man 23 1 0..1 = 0, man 23 0 0 = 23, man 23 0 1 = 3");
        edge("Of a CHARGE: BELIEF; whether he is CLEARED; the TOWN by which it is greatest, of like ones the least.", """
            tell 1 a0;a1;a7, belief 0 = 0, cleared 0 1 = 1, cleared 1..2 1 = 0
            tell 0 a71s;a62s, cleared 0..2 1 = 6
            tell 0 a63s;a62s;a71s, cleared 0..2 1 = 6, cleared 0..2 0 = 1
            tell 1 a6, cleared 0 1 = 7, belief 0 = -3
            """);
    }

    private void sums() {
        edge("SUM: how many CHARGES he is CLEARED of; how many TALES COUNT;", "sum 0..1 = 0",
            "tell 0 " + "a00s;".repeat(11) + "a00s, tell 1 a1;a2;a3;a4;a5;a6;a7;a1, sum 0 = 8, sum 1 = 12",
            "tell 0 a00s;a10s;b00s, tell 1 a1;a0;a1, need 3, sum 0 = 2, sum 1 = 2");
        edge("how many MEN there are behind NIGHT 23;", "sum 2 = 0", "tell 0 x00s, sum 2 = 1",
            "tell 0 a00s;a11s;a22s;a33s;a44s;a55s;a66s;a77s, sum 2 = 8, event 1 0 7, sum 2 = 7");
        edge("how many of these are churchwardens.", "sum 3 = 0",
            "tell 0 l00s, man 23 0 0 = 15, sum 3 = 1, tell 0 m00s, man 23 0 0 = 14, sum 3 = 0",
            "tell 0 a00s;a11s;a22s;a33s;a44s;a55s;a66s;a77s, sum 3 = 8");
        edge("LIAR: the WITNESS of whom most TALES do not COUNT, of like ones the least; NONE: all do.", "liar = -1",
            "tell 0 a00s;x79k, liar = -1, event 0 23 9, liar = 9, event 0 0 0, liar = 0",
            "tell 0 a08s;b08s;a09s;b09s;a00s, event 0 0 9, liar = 9, event 0 1 8, liar = 9, event 0 0 8, liar = 8, event 0 0 0, liar = 8");
        edge("BEST: the MAN (his TOWN) of the greatest STANDING behind NIGHT 23, of like ones the least; NONE.", "best = -1",
            "tell 0 x79s, best = 7, tell 0 x79s;x08s, best = 0, tell 0 x79s;x08k, best = 7", "tell 0 a00s, event 0 0 0, best = -1",
            "tell 0 a00s;b11s, times 4 event 2 23 0, times 4 event 2 23 1, best = 0, back, best = 0",
            // 39 and 40: a night later they would be alike.
            "tell 0 a10s;b13d;a21s;b24k, times 4 event 2 5 1, times 4 event 2 5 2, man 23 1 0 = 39, man 23 2 0 = 40, best = 2",
            // Both stand at 40, though one would be of more.
            "tell 0 a00k;a11s, times 4 event 2 0 0, times 4 event 2 0 1, best = 1, back, event 2 0 0, best = 0");
    }

    private void where() {
        edge("WHERE of a NIGHT: TOWNS in which he may have been,", "where 0..23 = 255");
        edge("if all sworn TALES that COUNT are true,",
            "tell 0 a00d;b70k, where 0..23 = 255", "tell 0 e30s;e41s, where 0..23 = 0", "tell 0 e30s;e40s, where 4 = 8",
            "tell 0 e30s;e31s, where 4 = 8", "tell 0 e30s, event 1 4 3, where 0..23 = 255");
        edge("and he goes on by one TOWN a NIGHT at most, as bits.", """
            tell 0 a00s, where 0 = 1, where 1 = 3, where 2 = 7, where 6 = 127, where 7..23 = 255
            tell 0 x70s, where 23 = 128, where 22 = 192, where 17 = 254, where 0..16 = 255
            tell 0 a00s;h71s, where 0 = 1, where 1 = 2, where 3 = 8, where 6 = 64, where 7 = 128, where 8 = 192
            tell 0 a00s;g71s, where 0..23 = 0
            """);
    }

    private void move() {
        edge("MOVE of a TALE: the TOWN (0 to 7), in place of its own, by which he is CLEARED of most,",
            "tell 0 a40s, need 3, tell 1 a0;a1;a2;a3;a4;a5;a6, move 0 0 = 7, move 0 1 = 7",
            "tell 0 a40s, need 3, tell 1 a1;a2;a3;a4;a5;a6;a7, move 0 0 = 0, move 0 1 = 7",
            "tell 0 a40s, need 3, tell 1 a0;a1;a2;a3;a5;a6;a7, move 0 0 = 4, move 0 1 = 7, tale 0 1 = 4, sum 0 = 7",
            "tell 0 " + "x50d;".repeat(11) + "a40s, need 3, tell 1 a0, move 10 0 = 0, move 10 1 = 1, move 11 0 = 1, move 12 0 = -2");
        edge("of like ones the least: which; how many.", "tell 0 a40s, move 0 0..1 = 0",
            "tell 0 a40s, tell 1 a0, need 3, move 0 0 = 1, move 0 1 = 1, need 4, move 0 0..1 = 0",
            "tell 0 a00s;a41s, tell 1 a4, need 3, move 1 0 = 0, move 1 1 = 1, move 0 0..1 = 0");
    }

    private void drop() {
        edge("DROP: the TALE that had better not have been told, likewise: which; how many; NONE: there are none.",
            "drop 0..1 = -1, tell 1 a0, drop 0..1 = -1", "tell 0 a00s, drop 0..1 = 0", "tell 0 !, drop 0..1 = -1",
            "tell 0 a00s;a00s, tell 1 a1, need 3, drop 0 = 0, drop 1 = 1, count 0 = 2",
            "tell 0 a00s;" + "x50s;".repeat(10) + "a11s, tell 1 a1, need 3, sum 0 = 0, drop 0 = 11, drop 1 = 1",
            "tell 0 a11s;" + "x50s;".repeat(10) + "a00s, tell 1 a1, need 3, sum 0 = 0, drop 0 = 0, drop 1 = 1");
    }

    private void clean() {
        edge("CLEAN: the most TALES of which no two CLASH (all that are told, whatever EVENTS): how many;", "clean 0 = 0",
            "tell 0 a00s, clean 0 = 1, event 0 0 0, event 1 0 0, clean 0 = 1", "tell 0 " + "a00s;".repeat(11) + "a00s, clean 0 = 12",
            "tell 0 a00s;a10s;a20s;a30s;a40s;a50s;a60s;a70s, clean 0 = 1",
            "tell 0 a70s;" + "a00s;".repeat(10) + "a00s, clean 0 = 11, sum 1 = 1, event 1 0 7, clean 0 = 11");
        edge("which, as bits, of like ones the least number.", "clean 1 = 0", "tell 0 a00s, clean 1 = 1, event 0 0 0, clean 1 = 1",
            "tell 0 " + "a00s;".repeat(11) + "a00s, clean 1 = 4095", "tell 0 a70s;" + "a00s;".repeat(10) + "a00s, clean 1 = 4094",
            "tell 0 a00s;a10s;a20s;a30s;a40s;a50s;a60s;a70s, clean 1 = 1", "tell 0 a00s;a10s;a00s;a10s, clean 1 = 5",
            "tell 0 a00s;a10s;a10s;a00s, clean 1 = 6", "tell 0 " + "a00s;".repeat(11) + "a10s, clean 1 = 2047");
    }

    private void spare() {
        edge("SPARE: the fewest EVENTS (0 to 2) that had better not be, so that he is CLEARED of all,", "spare -1 = 0, spare 0..1 = -1",
            "tell 1 a1, spare -1..1 = -1", """
            tell 0 a00s, tell 1 a1, need 3, spare -1 = 0, spare 0..1 = -1
            event 1 0 0, spare -1 = 1, event 0 0 0, spare -1 = 2, event 1 0 0, spare -1..1 = -1, count 5 = 3
            tell 1, spare -1 = 0
            """, "tell 0 a00s;b11s, tell 1 a1;b0, need 3, event 0 0 0, event 0 0 1, spare -1 = 2, tell 1 a1, spare -1 = 1");
        edge("of like ones the least row (each more than the one ahead): how many; the i-th; NONE.",
            "tell 0 a00s, tell 1 a1, need 3, " + EIGHT_EVENTS + ", spare -1 = 2, spare 0 = 6, spare 1 = 7, spare 2 = -2",
            "tell 0 a00s, tell 1 a1, need 3, times 7 event 2 23 9, event 1 0 0, spare -1 = 1, spare 0 = 7, spare 1 = -1", """
            tell 0 a00s;a32s, tell 1 a5, need 3
            event 0 0 0, event 0 0 2, spare -1 = 1, spare 0 = 0, spare 1 = -1
            event 1 0 3, event 1 0 0, spare -1 = 2, spare 0 = 0, spare 1 = 3
            event 1 0 0, spare -1 = 2, spare 0 = 1, spare 1 = 2
            """);
    }

    private void seen() {
        edge("SEEN, 8 at most: of a CHARGE (0 to 7;", "seen -1 0 = -2, seen 0 0 = 1, seen 7 1 = 2, seen 8 0 = -2",
            "seen 0 0, times 6 seen 0 1, seen 7 0 = 8, seen 0 0 = -4, count 7 = 8");
        edge("of one that there is not neither ever comes out so)", """
            tell 0 a00s, tell 1 a1, event 2 0 0, need 3
            seen 0 1, never = 1, seen 1 0, never = 0, was 0 0..1 = 0, forget, seen 1 1, never = 0, was 0 0..1 = 0
            forget, seen 7 0, never = 0, forget, seen 7 1, never = 0, ask 0 = 0
            """, "tell 0 a00s, tell 1 a1;a2;a3;a4;a5;a6;a7;a0, event 2 0 0, need 3, seen 7 0, never = 1, seen 6 1, never = 1, seen 7 1, never = 0");
        edge("he was CLEARED (1), or not (0).", "seen 0 -1 = -2, seen 0 0 = 1, seen 0 1 = 2, seen 0 2 = -2",
            "tell 0 a00s, tell 1 a1, event 2 0 9, need 3, seen 0 1, never = 1, forget, seen 0 0, never = 0, need 4, never = 1");
        edge("NEVER: EVENTS each of which, had it alone not been, makes all that was SEEN come out so, as bits.",
            "never = 0, seen 0 0, never = 0", "event 0 0 0, never = 1, times 7 event 0 0 0, never = 255",
            "tell 0 a00s, tell 1 a1, need 3, times 7 event 2 23 9, event 1 0 0, seen 0 1, never = 128, forget, seen 0 0, never = 127",
            "tell 0 a00s, tell 1 a1, need 3, event 1 0 0, event 1 0 0, seen 0 1, never = 0, back, never = 1",
            "tell 0 a00s, tell 1 a1, need 3, times 8 seen 0 1, never = 0, event 2 0 0, never = 1");
    }

    private void instead() {
        edge("BY of a TALE: the WITNESS 0 to 9, in place of its own, likewise, as bits.", """
            tell 0 a05s, tell 1 a1, need 3, was 0 0 = 1023, seen 0 1, was 0 0 = 1023
            event 0 0 0, was 0 0 = 1022, event 0 0 9, was 0 0 = 510, event 0 0 5, was 0 0 = 478
            forget, seen 0 0, was 0 0 = 545, seen 0 1, was 0 0 = 0, tale 0 2 = 5
            """);
        edge("SORT of a TALE: 0 s, 1 d, 2 k, in place of its own, likewise, as bits.", """
            tell 0 a05k, tell 1 a1, was 0 1 = 7
            need 1, seen 0 1, was 0 1 = 7, need 2, was 0 1 = 5, need 3, was 0 1 = 1, need 4, was 0 1 = 0
            forget, seen 0 0, was 0 1 = 7, need 3, was 0 1 = 6, need 2, was 0 1 = 2, need 1, was 0 1 = 0, tale 0 3 = 2
            """);
    }

    private void ask() {
        edge("ASK of a TALE: the CHARGE (0 to 7) by which the greatest number of those of BY by which he is CLEARED of it alike",
            "tell 0 a01s, tell 1 b1;b2;b3;b4;b5;b6;b7;a1, need 3, ask 0 = 0, event 0 0 0, ask 0 = 7",
            "tell 0 a01s;b01s, tell 1 a1;b1, need 3, event 0 1 2, event 0 1 3, event 0 0 4, ask 1 = 1, ask 0 = 0, tale 1 2 = 1");
        // Of the first charge he is cleared by four of ten, of the second by five: one witness more would make them alike.
        edge("the greatest number of those of BY by which he is CLEARED of it alike",
            "tell 0 a06s;a09d;a25d, tell 1 a2;a1, need 4, event 0 0 0, event 0 0 1, event 0 0 2, event 0 0 3, event 0 0 4, was 0 0 = 1023, ask 0 = 1");
        edge("(or not; of one that there is not by none)", "tell 0 a01s, ask 0 = 0", "tell 0 a01s, tell 1 a0, need 3, ask 0 = 0",
            // Cleared of the second by three of ten, so that seven are alike; of the first by none, so that all ten are.
            "tell 0 a05s, need 3, tell 1 b1;a1, event 0 0 0, event 0 0 1, event 0 0 2, event 0 0 3, event 0 0 4, event 0 0 6, event 0 0 7\n"
            + "seen 1 1, was 0 0 = 800, forget, ask 0 = 1");
        edge("is least, of like ones the least.", "tell 0 a01s, tell 1 a1;a2;a1, need 3, event 0 0 0, ask 0 = 0, tell 1 b1;a2;a1, ask 0 = 1",
            "tell 0 a01s, tell 1 b1;a1, need 3, event 0 0 0, ask 0 = 1, seen 1 1, ask 0 = 0, seen 1 0, ask 0 = 0",
            "tell 0 a01s, tell 1 b1;a1, need 3, event 0 0 0, seen 7 0, was 0 0 = 0, ask 0 = 0");
    }

    private void chance() {
        edge("CHANCE: each of EVENTS is by c sixteenths (0 to 16), by itself:", """
            tell 0 a00s, tell 1 a1, need 3, event 1 0 0
            chance -1 0 0 = LONGBAD, chance 0 0 0 = 1, chance 16 0 0 = 0, chance 17 0 0 = LONGBAD
            event 1 0 0, chance 5 0 0 = 121, chance 5 0 1 = 256, event 2 0 0, chance 5 0 0 = 121, chance 5 0 1 = 256
            """);
        edge("the chance that he is CLEARED of a CHARGE: a FRACTION.",
            "tell 0 a00s, tell 1 b1;a1, need 3, event 0 0 0, chance 5 0 0 = 0, chance 5 0 1 = 1, chance 5 1 0 = 11, chance 5 1 1 = 16",
            "tell 0 a00s, tell 1 a1, need 6, event 2 0 0, chance 0 0 0 = 0, chance 0 0 1 = 1, chance 16 0 0..1 = 1, chance 5 0 0 = 5, chance 5 0 1 = 16",
            "tell 0 a00s, tell 1 a1;a2;a3;a4;a5;a6;a7;a1, need 3, chance 5 0..7 0 = 1, chance 5 8 0 = LONGBAD");
    }

    private void lives() {
        edge("LIVES by a SEED: n TALES (0 to 12), in place of those told:", """
            tell 0 a00s;a01s, lives 0 -1 0 = -2, lives 0 0 0..1 = 0, lives 0 1 1 = 1, lives 0 13 1 = -2, count 0 = 2
            tell 1 a1, need 1, lives 1 0 0 = 0, sum 0 = 1
            """,
            // By seed 0 the twelfth is w10s, and q10s the one ahead of it in that town.
            "tell 1 w0, need 6, lives 0 12 0 = 1, need 7, lives 0 12 0 = 0, need 1, lives 0 11 0 = 0");
        edge("of each a LOT of 24 (its NIGHT), a LOT of 8 (its TOWN), a LOT of 10 (its WITNESS), a LOT of 3 (its sort):", """
            lives 0 2 1 = 2, event 1 18 7, lives 0 1 1 = 1, lives 0 2 1 = 1, event 1 0 4, lives 0 1 1 = 0, lives 0 2 1 = 0
            event 0 10 9, lives 0 3 1 = 0, back, lives 0 3 1 = 1, event 0 11 9, lives 0 3 1 = 1
            """);
        edge("how many CHARGES he is CLEARED of; how many TALES COUNT.", "tell 1 a1;s1;a1, need 3, lives 0 2 0 = 3, lives 0 1 0 = 2, lives 0 2 1 = 2",
            "tell 1 a0;a1;a2;a3;a5;a6;a7;a0, need 3, lives 0 1 0 = 8");
    }

    private void refusals() {
        edge("Refusals, the first that fits, in the order told at each act: BAD -2 (a number not as told, no such thing), NULL,",
            "read 4 = -2, read 0 = -11, write 8 0 = -2, write 0 0 = -11, copy 0 0 4 0 -1 = -2, copy 0 0 1 0 -1 = -11");
        edge("NOT -3 (as told), FULL -4, other FINDINGS.",
            "undo 2 = -2, undo 0 = -3, back = -3, times 8 event 0 0 0, event 0 0 10 = -2, event 0 0 0 = -4, sheet 0 3 -1 = -2, sheet 0 2 -1 = -15");
        edge("They change nothing (FINDINGS but count() 8).", "count 8 = 0, undo 0 = -3, count 8 = 0, lose 0 = -11, count 8 = 1");
        edge("Where the answer is a long, a refusal -x is the least long and x more.",
            "chance 0 0 0 = -9223372036854775806, tell 1 a0, chance 17 0 0 = -9223372036854775806");
    }
}
