/** The words of part 1: texts, events, what counts, weighs, stands, is believed; fractions, lots, sheets. */
final class EdgeTerms {
    private static final String TWELVE = "a00s;".repeat(11) + "x79k";
    private static final String EIGHT = "a0;".repeat(7) + "x7";
    private final Edges e;

    EdgeTerms(Edges e) {
        this.e = e;
    }

    void all() {
        calls();
        road();
        tales();
        charges();
        faults();
        events();
        clash();
        counts();
        weighs();
        men();
        standing();
        belief();
        fractions();
        lots();
        sheets();
        findings();
    }

    private void edge(String sentence, String... runs) {
        e.edge(0, sentence, runs);
    }

    private void calls() {
        edge("An object is used for at most 512 calls after it has been made; what later calls answer is free.",
            "times 510 type 0 97, type 1 97 = 1, count 2 = 59", "tell 0 a00s, tell 1 a1, need 3, times 500 belief 0 = 3, cleared 0 0 = 1");
    }

    private void road() {
        edge("NIGHTS are 0 to 23, TOWNS 0 to 7, along one road.", """
            tell 0 a00s;x79s
            tale 0 0 = 0, tale 1 0 = 23, tale 0 1 = 0, tale 1 1 = 7
            man -1 0 0 = -2, man 0 0 0 = 3, man 23 7 0 = 3, man 24 7 0 = -2, man 0 -1 0 = -2, man 23 8 0 = -2
            where -1 = -2, where 0 = 1, where 23 = 128, where 24 = -2
            event 2 -1 0 = -2, event 2 0 0 = 1, event 2 23 0 = 2, event 2 24 0 = -2
            """, """
            tell 0 a00s;b70s;b10s
            clash 0 1 = 1, clash 0 2 = 0
            tell 0 a00s, where 1 = 3, tell 0 a70s, where 1 = 192
            """);
    }

    /** Every byte behind a beginning: the text cannot go on with it, or can. */
    private void goesOn(String sentence, int text, String begun, String with) {
        for (int b = 0; b < 256; b++) {
            boolean can = with.indexOf(b) >= 0;
            boolean ended = can && (text == 0 ? begun.length() % 5 == 3 : begun.length() % 3 == 1);
            int fault = ended ? -1 : can ? begun.length() + 1 : begun.length();
            edge(sentence, "tell " + text + " " + begun + ", type " + text + " " + b + ", fault " + text + " = " + fault);
        }
    }

    private void tales() {
        edge("TALES are a text of up to 59 bytes (text 0)",
            "times 58 type 0 97, type 0 97 = 59, type 0 97 = -4, count 2 = 59, count 3 = 0");
        edge("(text 0), 12 at most (0 on)",
            "tell 0 " + TWELVE + ", count 0 = 12, tale -1 0 = -2, tale 0 0 = 0, tale 11 0 = 23, tale 12 0 = -2");
        goesOn("with ; between them", 0, "a00s", ";");
        goesOn("with ; between them", 0, "a00s;".repeat(10) + "a00s", ";");
        goesOn("a letter a to x, the NIGHT (0 to 23)", 0, "", "abcdefghijklmnopqrstuvwx");
        goesOn("a letter a to x, the NIGHT (0 to 23)", 0, "a00s;", "abcdefghijklmnopqrstuvwx");
        goesOn("a figure 0 to 7, the TOWN where he was", 0, "a", "01234567");
        goesOn("a figure 0 to 9, the WITNESS", 0, "a0", "0123456789");
        goesOn("and s (sworn), d (doubtful) or k (by kin).", 0, "a00", "sdk");
        goesOn("and s (sworn), d (doubtful) or k (by kin).", 0, "a00s;".repeat(11) + "x79", "sdk");
        for (int night = 0; night < 24; night++) {
            edge("a letter a to x, the NIGHT (0 to 23)", "tell 0 " + (char) ('a' + night) + "00s, tale 0 0 = " + night);
        }
        for (int figure = 0; figure < 10; figure++) {
            String town = figure < 8 ? ", tell 0 a" + figure + "0s, tale 0 1 = " + figure : "";
            edge("a figure 0 to 9, the WITNESS", "tell 0 a0" + figure + "s, tale 0 2 = " + figure + town);
        }
        edge("and s (sworn), d (doubtful) or k (by kin).",
            "tell 0 a00s;a00d;a00k, tale 0 3 = 0, tale 1 3 = 1, tale 2 3 = 2");
    }

    private void charges() {
        edge("CHARGES are a text of up to 23 bytes (text 1)",
            "times 22 type 1 97, type 1 97 = 23, type 1 97 = -4, count 3 = 23, count 2 = 0");
        edge("(text 1), 8 at most (0 on)",
            "tell 1 " + EIGHT + ", count 1 = 8, charge -1 0 = -2, charge 0 0 = 0, charge 7 0 = 23, charge 8 0 = -2");
        goesOn("8 at most (0 on), with ; between them: a letter a to x, the NIGHT, and", 1, "a0", ";");
        String letters = "abcdefghijklmnopqrstuvwx";
        goesOn("8 at most (0 on), with ; between them: a letter a to x, the NIGHT, and", 1, "", letters);
        goesOn("8 at most (0 on), with ; between them: a letter a to x, the NIGHT, and", 1, "a0;", letters);
        goesOn("and a figure 0 to 7, the TOWN.", 1, "a", "01234567");
        goesOn("and a figure 0 to 7, the TOWN.", 1, "a0;".repeat(7) + "x", "01234567");
        for (int night = 0; night < 24; night++) {
            String told = (char) ('a' + night) + "" + night % 8;
            edge("and a figure 0 to 7, the TOWN.",
                "tell 1 " + told + ", charge 0 0 = " + night + ", charge 0 1 = " + night % 8);
        }
    }

    private void faults() {
        edge("The FAULT of a text is the place of the first byte with which it cannot go on", """
            tell 0 !!, fault 0 = 0, tell 0 a!!, fault 0 = 1, tell 0 a0!!, fault 0 = 2, tell 0 a00!!, fault 0 = 3
            tell 0 a00s!!, fault 0 = 4, tell 0 a00s;!a00s;!, fault 0 = 5
            tell 1 !!, fault 1 = 0, tell 1 a!!, fault 1 = 1, tell 1 a0!!, fault 1 = 2, tell 1 a0;!a0;!, fault 1 = 3
            """, "tell 0 " + "a00s;".repeat(11) + "x79!, fault 0 = 58, tell 1 " + "a0;".repeat(7) + "x!, fault 1 = 22");
        edge("(an empty one is well;", "fault 0 = -1, fault 1 = -1, tell 0 a, tell 1 a, undo 0, undo 1, fault 0..1 = -1");
        edge("of one that is not ended, its end)", """
            tell 0 a, fault 0 = 1, tell 0 a0, fault 0 = 2, tell 0 a00, fault 0 = 3, tell 0 a00s, fault 0 = -1
            tell 0 a00s;, fault 0 = 5, tell 0 a00s;b, fault 0 = 6
            tell 1 a, fault 1 = 1, tell 1 a0, fault 1 = -1, tell 1 a0;, fault 1 = 3, tell 1 a0;b, fault 1 = 4
            """, "tell 0 " + "a00s;".repeat(11) + "x79, fault 0 = 58, tell 1 " + "a0;".repeat(7) + "x, fault 1 = 22",
            "tell 0 " + "a00s;".repeat(11) + ", fault 0 = 55, tell 1 " + "a0;".repeat(7) + ", fault 1 = 21");
        // Both texts end with their last part: what would begin the next is refused before it can be a fault.
        edge("here also of the first byte of a thirteenth TALE, of a ninth CHARGE.",
            "tell 0 " + TWELVE + ", type 0 59 = -4, type 0 97 = -4, fault 0 = -1, count 0 = 12",
            "tell 1 " + EIGHT + ", type 1 59 = -4, type 1 97 = -4, fault 1 = -1, count 1 = 8");
        edge("With a FAULT a text is as if it was empty.", """
            tell 0 a00s;a01s;, tell 1 a1, need 1
            count 0 = 0, count 1 = 1, count 2 = 10, tale 0 0 = -2, clash 0 1 = -2, stands 0 0 = -2, man 23 0 1 = 0
            belief 0 = 0, cleared 0 0 = 0, sum 1..2 = 0, liar = -1, best = -1, where 0 = 255, move 0 0 = -2
            drop 0..1 = -1, clean 0..1 = 0, was 0 0 = -2, ask 0 = -2
            undo 0, count 0 = 2, belief 0 = 12, cleared 0 0 = 1
            type 1 33, count 0 = 2, count 1 = 0, count 3 = 3, charge 0 0 = -2, belief 0 = MIN, cleared 0 0 = -2
            sum 0 = 0, spare -1 = 0, chance 5 0 0 = LONGBAD, event 2 0 0, seen 0 1, never = 0, forget, seen 0 0, never = 0
            undo 1, count 1 = 1, belief 0 = 12
            """);
    }

    private void events() {
        edge("NEED is 1 to 40 (6 at first).",
            "count 4 = 6, need 0 = -2, need 1 = 6, count 4 = 1, need 41 = -2, need 40 = 1, need 40 = 40");
        edge("EVENTS, 8 at most (0 on): a kind, a NIGHT, a number 0 to 9", """
            event 0 0 0 = 1, never = 1, event 2 23 9 = 2, never = 3, event 1 0 9 = 3, event 2 23 0 = 4
            event 0 0 0 = 5, event 0 0 0 = 6, event 0 0 0 = 7, event 0 0 0 = 8, never = 255, event 0 0 0 = -4
            """, """
            event -1 0 0 = -2, event 3 0 0 = -2, event 0 -1 0 = -2, event 0 24 0 = -2, event 0 0 -1 = -2, event 0 0 10 = -2
            count 5 = 0
            """);
        edge("0 that WITNESS TURNS in it", """
            tell 0 a00s;a08s;a09s
            event 0 0 0, stands 0 0 = 0, stands 1..2 0 = 1, back
            event 0 0 8, stands 0 0 = 1, stands 1 0 = 0, stands 2 0 = 1, back
            event 0 0 9, stands 0..1 0 = 1, stands 2 0 = 0
            """);
        edge("1 a FAIR in it in that TOWN (8, 9: nothing)", """
            tell 0 c00s;c11s;c72s
            event 1 2 0, stands 0 0 = 0, stands 1..2 0 = 1, back
            event 1 2 7, stands 0..1 0 = 1, stands 2 0 = 0, back
            event 1 2 8, event 1 2 9, stands 0..2 0 = 1, count 5 = 2
            """);
        edge("2 a LETTER in it for the man in that TOWN (8, 9: nothing).", """
            tell 0 c00s;c11s;c72s
            event 2 2 0, man 2 0 0 = 6, man 2 1 0 = 3, man 2 7 0 = 3
            event 2 2 7, man 2 0 0 = 6, man 2 1 0 = 3, man 2 7 0 = 6
            event 2 2 8, event 2 2 9, man 2 0 0 = 6, man 2 1 0 = 3, man 2 7 0 = 6, count 5 = 4
            """);
    }

    private void clash() {
        edge("Two TALES of one WITNESS CLASH, if their TOWNS are farther from each other than their NIGHTS",
            "tell 0 a00s;a00s;a10s;b10s;b20s, clash 0 1 = 0, clash 0 2 = 1, clash 0 3 = 0, clash 0 4 = 1",
            "tell 0 b20s;a00s;c00s, clash 0 1 = 1, clash 1 0 = 1, clash 0 2 = 1, clash 1 2 = 0",
            "tell 0 a00s;a71s;a70k;a70d, clash 0 1 = 0, clash 0 2 = 1, clash 0 3 = 1, clash 2 3 = 0");
        edge("(nobody goes on by more than one TOWN a NIGHT).",
            "tell 0 a00s;h70s;g70s, clash 0 1 = 0, clash 0 2 = 1", "tell 0 x70s;q00s;r00s, clash 0 1 = 0, clash 0 2 = 1");
    }

    private void counts() {
        edge("By numbers, a TALE COUNTS, unless its WITNESS TURNED in its NIGHT or ahead,", """
            tell 0 a00s;b00s;x00s;b01s
            event 0 0 0, stands 0..2 0 = 0, stands 3 0 = 1, back
            event 0 1 0, stands 0 0 = 1, stands 1..2 0 = 0, stands 3 0 = 1, back
            event 0 2 0, stands 0..1 0 = 1, stands 2 0 = 0, back
            event 0 23 0, stands 0..1 0 = 1, stands 2 0 = 0
            """);
        edge("or there is a FAIR in its TOWN in its NIGHT,", """
            tell 0 a00s;b00s;c00s;b12s;a00d
            event 1 1 0, stands 0 0 = 1, stands 1 0 = 0, stands 2..4 0 = 1, back
            event 1 0 0, stands 0 0 = 0, stands 1..3 0 = 1, stands 4 0 = 0
            """, "tell 0 x70s, event 1 22 7, event 1 23 6, stands 0 0 = 1, event 1 23 7, stands 0 0 = 0");
        edge("or it CLASHES with one ahead that COUNTS.", """
            tell 0 a00s;a20s;a40s, stands 0 0 = 1, stands 1..2 0 = 0
            event 1 0 0, stands 0 0 = 0, stands 1 0 = 1, stands 2 0 = 0
            event 1 0 2, stands 0..1 0 = 0, stands 2 0 = 1
            """, "tell 0 x00s;a00s;a10s, stands 0..1 0 = 1, stands 2 0 = 0",
            "tell 0 a00s;a20s;b30s, stands 1 0 = 0, stands 2 0 = 0, tell 0 b10s;a30s;c30s, stands 1 0 = 0, stands 2 0 = 0",
            "tell 0 a00s;a20s;b10s;b30s, stands 0 0 = 1, stands 1 0 = 0, stands 2 0 = 1, stands 3 0 = 0");
    }

    private void weighs() {
        edge("A sworn TALE WEIGHS 3;", "tell 0 a00s;a01s;a02s;a00s, stands 0..3 1 = 3", "tell 0 a00s;a70s, stands 0 1 = 3");
        edge("a doubtful one 1,", "tell 0 a00d, stands 0 1 = 1", "tell 0 a00d;a00d;a00s;a00k, stands 0..1 1 = 1",
            "tell 0 b00d;a01s;c01s;b12s, stands 0 1 = 1");
        edge("and 1 more for each other WITNESS by whose word a TALE of that NIGHT and TOWN COUNTS, 3 at most;",
            "tell 0 a00d;a01d, stands 0..1 1 = 2", "tell 0 a00d;a01d;a01s, stands 0 1 = 2, stands 1 1 = 2",
            "tell 0 a00d;a01d;a02d, stands 0..2 1 = 3", "tell 0 a00d;a01d;a02d;a03d, stands 0..3 1 = 3",
            "tell 0 a00d;a01s;a09k, stands 0 1 = 3, event 0 0 9, stands 0 1 = 2, event 0 0 1, stands 0 1 = 1",
            // A word that weighs nothing may count.
            "tell 0 a00d;a01k;a71s, stands 1 0 = 1, stands 1 1 = 0, stands 0 1 = 2");
        edge("one by kin 2, but 0 if any TALE of that WITNESS does not COUNT.", "tell 0 a00k, stands 0 1 = 2",
            "tell 0 a00k;a01s;a71s, stands 0 1 = 2", "tell 0 a00k;a70s, stands 0 0 = 1, stands 0 1 = 0",
            "tell 0 a70s;a00k;x00k, stands 1 0 = 0, stands 1 1 = 0, stands 2 0 = 1, stands 2 1 = 0",
            "tell 0 a00k;c00s, event 0 3 0, stands 0 1 = 2, event 0 2 0, stands 0 0 = 1, stands 0 1 = 0");
        edge("One that does not COUNT WEIGHS 0.", "tell 0 a00s;a00d;a00k;a01d, event 0 0 0, stands 0..2 1 = 0, stands 3 1 = 1",
            "tell 0 a00s;a70s, stands 1 1 = 0");
    }

    private void men() {
        edge("In a TOWN there comes to be a MAN in the least NIGHT of which a TALE of that TOWN COUNTS.",
            "tell 0 a00s, man 0 0 1 = 1, man 0..23 1 1 = 0", "tell 0 x00s, man 22 0 1 = 0, man 23 0 1 = 1, man 23 0 0 = 3",
            "tell 0 c00s;b01s, man 0 0 1 = 0, man 1 0 1 = 1, event 1 1 0, man 1 0 1 = 0, man 2 0 1 = 1",
            "tell 0 a00s;a70s, man 0 0 1 = 1, man 0..23 7 1 = 0");
        edge("His RANK: 0 there is none,", "man 0..23 0 1 = 0", "tell 0 c00s, man 0..1 0 1 = 0, man 2 0 1 = 1");
        edge("1 by STANDING of less than 6 (he walks about),",
            "tell 0 a00s, man 2 0 0 = 5, man 0..2 0 1 = 1, man 3 0 0 = 6, man 3 0 1 = 2",
            "tell 0 e10k;e70s, man 3 1 1 = 0, man 4 1 0 = 0, man 4 1 1 = 1");
        edge("2 by less than 15 (he has a shop),",
            "tell 0 a00s, man 3..11 0 1 = 2, man 11 0 0 = 14, man 12 0 0 = 15, man 12 0 1 = 3");
        edge("3 (he is a churchwarden).", "tell 0 a00s, man 12..23 0 1 = 3, times 5 event 2 0 0, man 23 0 0 = 40, man 23 0 1 = 3");
    }

    private void standing() {
        edge("His STANDING behind a NIGHT (from that on) is how many NIGHTS ago that was,",
            "tell 0 c00d, man 1 0 0 = 0, man 2 0 0 = 1, man 3 0 0 = 2, man 23 0 0 = 22");
        edge("and what all TALES of that TOWN up to that NIGHT WEIGH,",
            "tell 0 b00d;c01s;d02s;c13s, man 0 0 0 = 0, man 1 0 0 = 1, man 2 0 0 = 5, man 3 0 0 = 9, man 23 0 0 = 29");
        edge("and 3 for each LETTER from when he came to be up to that NIGHT,", """
            tell 0 c00d
            event 2 1 0, man 1 0 0 = 0, man 2 0 0 = 1, man 23 0 0 = 22
            event 2 2 0, man 2 0 0 = 4
            event 2 5 0, man 4 0 0 = 6, man 5 0 0 = 10
            event 2 5 0, man 5 0 0 = 13, event 2 23 0, man 22 0 0 = 30, man 23 0 0 = 34
            """);
        edge("40 at most.", "tell 0 a00d, times 5 event 2 0 0, man 0 0 0 = 16, man 23 0 0 = 39",
            "tell 0 a00k, times 5 event 2 0 0, man 22 0 0 = 39, man 23 0 0 = 40",
            "tell 0 a00s, times 5 event 2 0 0, man 21 0 0 = 39, man 22..23 0 0 = 40",
            "tell 0 " + "a00s;".repeat(11) + "a00s, times 8 event 2 0 0, man 0..23 0 0 = 40",
            "tell 0 " + "a00s;".repeat(11) + "a00s, event 2 0 0, man 0 0 0 = 39, man 1..23 0 0 = 40");
    }

    private void belief() {
        edge("BELIEF in him at a CHARGE is the greatest, of TOWNS but its own,", "tell 1 a0;x7, belief 0..1 = 0",
            "tell 0 a00s;a71d, tell 1 a0;a7;a3;b3, belief 0 = -2, belief 1 = 2, belief 2 = 3, belief 3 = 0",
            "tell 0 a70s, tell 1 a0;a7, belief 0 = 3, belief 1 = -3");
        edge("of what TALES of its NIGHT and that TOWN WEIGH together times the RANK of the MAN there behind that NIGHT,",
            "tell 0 " + "a00s;".repeat(11) + "a00s, tell 1 a1;b1, belief 0 = 108, belief 1 = 0",
            "tell 0 a01s;c02d;d03d, tell 1 a1;b1;c1;d1, belief 0 = 3, belief 1 = 0, belief 2 = 2, belief 3 = 2",
            // Behind the night itself: what comes later makes no rank.
            "tell 0 a00s;b01s;b02s, tell 1 a1, belief 0 = 3, event 2 1 0, belief 0 = 3, event 2 0 0, belief 0 = 6");
        edge("less what TALES of its NIGHT and its own TOWN WEIGH.",
            "tell 0 " + "a00s;".repeat(11) + "a00s, tell 1 a0, belief 0 = -36",
            "tell 0 a00d;b01s;a12s, tell 1 a0, belief 0 = 2", "tell 0 a00s;a70s;a71s, tell 1 a7;a0, belief 0 = 0, belief 1 = 0");
        String tales = "tell 0 a00s;a01s;a02s;a03s;a04k;a15";
        String asked = ", tell 1 a1, event 2 0 0, need 40, cleared 0 0 = ";
        edge("He is CLEARED, if that is NEED at least.",
            "tell 0 a00s, tell 1 a1;b1, need 2, cleared 0 0 = 1, need 3, cleared 0 0 = 1, need 4, cleared 0 0 = 0",
            "tell 1 a1, need 1, belief 0 = 0, cleared 0 0 = 0", "tell 0 a00d, tell 1 a1, need 1, cleared 0 0 = 1",
            tales + "s" + asked + "0, belief 0 = 39", tales + "k" + asked + "1, belief 0 = 40",
            tales + "d" + asked + "1, belief 0 = 41");
    }

    private void fractions() {
        edge("FRACTIONS are told in lowest terms, above and below (0 by 1).", """
            tell 0 a00s, tell 1 a1;b1, need 3
            chance 5 0 0 = 1, chance 5 0 1 = 1, chance 5 1 0 = 0, chance 5 1 1 = 1
            event 1 0 0
            chance 0 0 0 = 1, chance 0 0 1 = 1, chance 16 0 0 = 0, chance 16 0 1 = 1
            chance 1 0 0 = 15, chance 1 0 1 = 16, chance 2 0 0 = 7, chance 2 0 1 = 8, chance 4 0 0 = 3, chance 4 0 1 = 4
            chance 8 0 0 = 1, chance 8 0 1 = 2, chance 12 0 0 = 1, chance 12 0 1 = 4, chance 15 0 0 = 1, chance 15 0 1 = 16
            chance 0..16 1 0 = 0, chance 0..16 1 1 = 1
            """, """
            tell 0 a00s, tell 1 a1, need 3, times 8 event 1 0 0
            chance 1 0 0 = 2562890625, chance 1 0 1 = 4294967296, chance 15 0 0 = 1, chance 15 0 1 = 4294967296
            chance 8 0 0 = 1, chance 8 0 1 = 256, chance 2 0 0 = 5764801, chance 2 0 1 = 16777216
            chance 16 0 0 = 0, chance 16 0 1 = 1, chance 0 0 0 = 1, chance 0 0 1 = 1
            """);
    }

    /** A life of one tale: fairs tell its night and town, one who turns its witness, what is believed its sort. */
    private void drawn(String sentence, int seed, int night, int town, int witness, int sort) {
        String life = "lives " + seed + " 1 ";
        int weight = sort == 0 ? 3 : sort == 1 ? 1 : 2;
        int later = Math.min(23, night + 1);
        edge(sentence, life + "1 = 1, event 1 " + night + " " + town + ", " + life + "1 = 0",
            "event 1 " + night + " " + (town + 1) % 8 + ", event 1 " + (night + 1) % 24 + " " + town + ", " + life + "1 = 1",
            "event 0 " + night + " " + witness + ", " + life + "1 = 0",
            "event 0 0 " + (witness + 1) % 10 + ", event 0 " + later + " " + witness + ", " + life + "1 = 1",
            "tell 1 " + (char) ('a' + night) + (town + 1) % 8 + ", need " + weight + ", " + life + "0 = 1, need "
            + (weight + 1) + ", " + life + "0 = 0");
    }

    private void lots() {
        String step = "LOTS of m: SEED becomes 1103515245 SEED and 12345, as ints that wrap;";
        drawn(step, 0, 0, 4, 6, 0);
        drawn(step, 1, 14, 6, 3, 0);
        drawn(step, -1, 1, 1, 2, 2);
        drawn(step, 7, 12, 6, 8, 0);
        drawn(step, Integer.MIN_VALUE, 8, 4, 8, 1);
        drawn(step, Integer.MAX_VALUE, 17, 1, 0, 0);
        // Seeds that first become the ends of the upper bits: 65535, 32768, 32767, 0, 1 of them.
        String upper = "its upper 16 bits as a number from 0 on, modulo m.";
        drawn(upper, 286434947, 15, 3, 7, 1);
        drawn(upper, 230538014, 15, 1, 9, 1);
        drawn(upper, 2088216195, 8, 0, 8, 1);
        drawn(upper, 2032319262, 8, 6, 0, 2);
        drawn(upper, -1916945634, 7, 1, 7, 0);
        drawn(upper, -1861048701, 7, 3, 5, 2);
        drawn(upper, -115164386, 0, 6, 8, 1);
        drawn(upper, -404969853, 1, 5, 9, 2);
        drawn(upper, -59267453, 0, 0, 6, 0);
    }

    private void sheets() {
        edge("SHEETS 0 .. 3 are LOST (at first)", "lose -1 = -2, lose 0..3 = -11, lose 4 = -2",
            "sheet -1 0 1 = -2, sheet 0..3 0 1 = 1, sheet 4 0 1 = -2, lose 0..3 = 1, lose 0..3 = -11");
        edge("or a row of a FORM: 0 bytes, 1 shorts, 2 ints,", """
            sheet 0 -1 1 = -2, sheet 0 0..2 1 = 1, sheet 0 3 1 = -2
            sheet 0 0 1, put 0 0 0 127, get 0 0 0 = 127, put 0 0 0 128, get 0 0 0 = -128
            put 0 0 0 -128, get 0 0 0 = -128, put 0 0 0 -129, get 0 0 0 = 127
            sheet 0 1 1, put 0 1 0 32767, get 0 1 0 = 32767, put 0 1 0 32768, get 0 1 0 = -32768
            put 0 1 0 -32768, get 0 1 0 = -32768, put 0 1 0 -32769, get 0 1 0 = 32767
            sheet 0 2 1, put 0 2 0 MAX, get 0 2 0 = MAX, put 0 2 0 MIN, get 0 2 0 = MIN, count 8 = 0
            """);
        edge("of 0 to 60 items (0 at first).", """
            sheet 0 2 0 = 0, get 0 2 0 = MIN, count 8 = 2, lose 0 = 0
            sheet 0 2 60 = 60, get 0 2 0..59 = 0, get 0 2 60 = MIN, sheet 0 2 61 = -2, lose 0 = 60
            """, "sheet 1 0 2, put 1 0 1 5, sheet 1 0 2, get 1 0 0..1 = 0");
    }

    private void findings() {
        edge("FINDINGS (answers -10 less the number; they change nothing but count() 8)",
            "count 8 = 0, sheet 0 0 -1 = -15, count 8 = 5, lose 0 = -11, count 8 = 1, lose 4 = -2, count 8 = 1");
        edge("1 NULL: the SHEET is LOST", "lose 0 = -11, sheet 0 0 1, lose 0 = 1, count 8 = 1, sheet 0 0 -1, lose 0 = -11, count 8 = 1");
        edge("2 INDEX: there is no such item",
            "sheet 0 0 2, put 0 0 -1 1 = -12, count 8 = 2, put 0 0 0..1 1 = 1, put 0 0 2 1 = -12, put 0 0 MAX 1 = -12",
            "sheet 0 0 0, put 0 0 0 1 = -12, put 0 0 -1 1 = -12, put 0 0 MIN 1 = -12");
        edge("3 CAST: it has another FORM", """
            sheet 0 0 1, put 0 0 0 1 = 1, put 0 1..2 0 1 = -13, count 8 = 3
            sheet 0 1 1, put 0 0 0 1 = -13, put 0 1 0 1 = 1, put 0 2 0 1 = -13
            sheet 0 2 1, put 0 0..1 0 1 = -13, put 0 2 0 1 = 1
            """);
        edge("4 STORE: unlike FORMS", """
            sheet 0 0 1, sheet 1 1 1, sheet 2 2 1, sheet 3 0 1
            copy 0 0 1 0 1 = -14, count 8 = 4, copy 1 0 0 0 1 = -14, copy 1 0 2 0 1 = -14, copy 2 0 0 0 1 = -14
            copy 0 0 3 0 1 = 1, copy 0 0 1 0 0 = -14
            """);
        edge("5 SIZE: below 0.", "sheet 0 0 0 = 0, sheet 0 0 -1 = -15, count 8 = 5, sheet 0 0 MIN = -15, lose 0 = 0");
    }
}
