/** Promises 32 to 39. */
final class EdgeSheet {
    private static final String LONG_TALES = "a01s;c12d;c13d;c10k;e30s;e34d;f25s;g61k;h61k;i40s;c11d;x73s";
    private final Edges e;

    EdgeSheet(Edges e) {
        this.e = e;
    }

    void all() {
        sheet();
        lose();
        put();
        get();
        copy();
        copyRefused();
        write();
        count();
        digest();
        asking();
        manyCalls();
    }

    private void sheet() {
        e.edge(32, "A SHEET is a new row of a FORM with n items: n.", "sheet 0..3 2 60 = 60, lose 0..3 = 60, sheet 0 0..2 0 = 0, lose 0 = 0",
            "sheet 0 0 2 = 2, put 0 0 1 9, sheet 0 0 2 = 2, get 0 0 1 = 0, sheet 0 2 1 = 1, get 0 0 0 = MIN, count 8 = 3, get 0 2 1 = MIN, count 8 = 2",
            "sheet 0 1 3, sheet 1 1 3, put 0 1 0 4, get 1 1 0 = 0, sheet 1 1 3, get 0 1 0 = 4");
        e.refused(32, "BAD: SHEET, FORM, above 60;", -2, "sheet -1 0 1", "sheet 4 0 1", "sheet MIN 0 1", "sheet MAX 0 1", "sheet 0 -1 1",
            "sheet 0 3 1", "sheet 0 MIN 1", "sheet 0 MAX 1", "sheet 0 0 61", "sheet 3 2 MAX", "sheet 4 3 61");
        e.refused(32, "above 60; SIZE.", -2, "sheet -1 0 -1", "sheet 4 0 -1", "sheet 0 -1 -1", "sheet 0 3 MIN");
        e.refused(32, "SIZE.", -15, "sheet 0 0 -1", "sheet 1 1 MIN", "sheet 2 2 -1", "sheet 3 0 -60");
    }

    private void lose() {
        e.edge(33, "It is LOST: how many items it had.", "sheet 0 0 0, sheet 3 2 60, lose 0 = 0, lose 3 = 60, lose 0 = -11, lose 3 = -11",
            "sheet 0 0 2, sheet 1 0 3, lose 0 = 2, get 0 0 0 = MIN, count 8 = 1, get 1 0 2 = 0, lose 1 = 3");
        e.refused(33, "BAD; NULL.", -2, "lose -1", "lose 4", "lose MIN", "lose MAX");
        e.refusedIn(State.NEW, 33, "BAD; NULL.", -11, "lose 0", "lose 1", "lose 2", "lose 3");
        e.refusedIn(State.TOLD, 33, "BAD; NULL.", -11, "lose 3");
        e.refusedIn(State.FAULTY, 33, "BAD; NULL.", -11, "lose 0", "lose 2");
    }

    private void put() {
        e.edge(34, "Item i, treated as of a FORM, becomes v (the lowest bits that it has): 1.", """
            sheet 0 0 60, put 0 0 0 255 = 1, get 0 0 0 = -1, put 0 0 59 256 = 1, get 0 0 59 = 0, put 0 0 1 -256, get 0 0 1 = 0
            put 0 0 2 383, get 0 0 2 = 127, put 0 0 2 MIN, get 0 0 2 = 0, put 0 0 2 MAX, get 0 0 2 = -1, get 0 0 3 = 0
            """, """
            sheet 0 1 60, put 0 1 0 65535 = 1, get 0 1 0 = -1, put 0 1 59 65536 = 1, get 0 1 59 = 0, put 0 1 1 -65537, get 0 1 1 = -1
            put 0 1 2 98303, get 0 1 2 = 32767, put 0 1 2 MIN, get 0 1 2 = 0, put 0 1 2 MAX, get 0 1 2 = -1, get 0 1 3 = 0
            """, "sheet 0 2 60, put 0 2 0 MIN = 1, get 0 2 0 = MIN, put 0 2 59 MAX = 1, get 0 2 59 = MAX, put 0 2 1 -1, get 0 2 1 = -1, count 8 = 0");
        String order = "BAD; NULL; CAST; INDEX.";
        e.refused(34, order, -2, "put -1 0 0 1", "put 4 0 0 1", "put MIN 0 0 1", "put MAX 0 0 1", "put 0 -1 0 1", "put 0 3 0 1",
            "put 0 MIN 0 1", "put 0 MAX 0 1", "put 3 3 0 1", "put 0 3 -1 1", "put 1 3 60 1", "put 4 3 60 1");
        e.refusedIn(State.NEW, 34, order, -11, "put 0 0 0 1", "put 3 2 0 1", "put 0 1 -1 1", "put 0 2 60 1");
        e.refusedIn(State.TOLD, 34, order, -11, "put 3 0 0 1", "put 3 0 -1 1", "put 3 1 MAX 1");
        e.refusedIn(State.TOLD, 34, order, -13, "put 0 1 0 1", "put 0 2 5 1", "put 1 0 0 1", "put 2 1 0 1", "put 0 1 6 1", "put 1 2 -1 1");
        e.refusedIn(State.TOLD, 34, order, -12, "put 0 0 -1 1", "put 0 0 6 1", "put 1 1 5 1", "put 2 2 0 1", "put 0 0 MIN 1", "put 0 0 MAX 1");
        e.refusedIn(State.FULL, 34, order, -12, "put 0 0 60 1", "put 1 0 24 1", "put 2 1 60 1", "put 3 2 60 1", "put 3 2 -1 1");
    }

    private void get() {
        e.edge(35, "Item i of it.", "sheet 0 0 60, put 0 0 0 1, put 0 0 59 2, get 0 0 0 = 1, get 0 0 59 = 2, get 0 0 1..58 = 0, count 8 = 0",
            // An item may be the least int itself; then there is no finding.
            "sheet 1 2 1, put 1 2 0 MIN, get 1 2 0 = MIN, count 8 = 0");
        e.refused(35, "BAD: the least int;", Integer.MIN_VALUE, "get -1 0 0", "get 4 0 0", "get MIN 0 0", "get MAX 0 0", "get 0 -1 0", "get 0 3 0",
            "get 0 MIN 0", "get 0 MAX 0", "get 3 3 0", "get 0 3 -1", "get 4 3 60");
        String found = "so are NULL, CAST, INDEX (count() 8 tells).";
        e.foundIn(State.NEW, 35, found, 1, "get 0 0 0", "get 3 2 0", "get 0 1 -1");
        e.foundIn(State.TOLD, 35, found, 1, "get 3 0 0", "get 3 1 -1", "get 3 2 60");
        e.foundIn(State.TOLD, 35, found, 3, "get 0 1 0", "get 0 2 5", "get 1 0 0", "get 2 1 0", "get 0 1 6", "get 1 2 -1");
        e.foundIn(State.TOLD, 35, found, 2, "get 0 0 -1", "get 0 0 6", "get 1 1 5", "get 2 2 0", "get 0 0 MIN", "get 0 0 MAX");
        e.foundIn(State.FULL, 35, found, 2, "get 0 0 60", "get 1 0 24", "get 2 1 60", "get 3 2 60", "get 3 2 -1");
    }

    private static String five(int s, int form) {
        StringBuilder run = new StringBuilder("sheet " + s + " " + form + " 5");
        for (int i = 0; i < 5; i++) {
            run.append(", put ").append(s).append(' ').append(form).append(' ').append(i).append(' ').append(10 * s + i + 1);
        }
        return run + ", ";
    }

    private void copy() {
        String all = "n items of SHEET s, from i on, come to SHEET t (perhaps s, as they were), from j on: 1.";
        e.edge(36, all, five(0, 0) + five(1, 0) + "copy 0 0 1 0 5 = 1, get 1 0 0 = 1, get 1 0 4 = 5, get 0 0 0 = 1, get 0 0 4 = 5",
            five(0, 1) + five(1, 1) + "copy 0 0 1 4 1 = 1, get 1 1 3 = 14, get 1 1 4 = 1, copy 1 4 0 0 1 = 1, get 0 1 0 = 1, get 0 1 1 = 2",
            five(0, 2) + five(1, 2) + "copy 0 5 1 5 0 = 1, copy 0 0 1 5 0 = 1, copy 0 5 1 0 0 = 1, get 1 2 0 = 11, get 1 2 4 = 15",
            "sheet 0 0 0, sheet 1 0 0, copy 0 0 1 0 0 = 1, copy 0 0 0 0 0 = 1, count 8 = 0",
            five(0, 2) + "copy 0 0 0 1 4 = 1, get 0 2 0..1 = 1, get 0 2 2 = 2, get 0 2 3 = 3, get 0 2 4 = 4",
            five(0, 2) + "copy 0 1 0 0 4 = 1, get 0 2 0 = 2, get 0 2 1 = 3, get 0 2 2 = 4, get 0 2 3..4 = 5",
            five(0, 2) + "copy 0 0 0 0 5 = 1, get 0 2 0 = 1, get 0 2 4 = 5, copy 0 0 0 4 1 = 1, get 0 2 4 = 1, get 0 2 3 = 4",
            "sheet 0 2 60, put 0 2 0 MIN, put 0 2 59 MAX, sheet 1 2 60, copy 0 0 1 0 60 = 1, get 1 2 0 = MIN, get 1 2 59 = MAX, count 8 = 0");
    }

    private void copyRefused() {
        e.refused(36, "BAD: the SHEETS;", -2, "copy -1 0 0 0 0", "copy 4 0 0 0 0", "copy 0 0 -1 0 0", "copy 0 0 4 0 0", "copy MIN 0 0 0 0",
            "copy 0 0 MAX 0 0", "copy 3 0 4 0 0", "copy 4 0 3 0 0", "copy 0 -1 4 0 -1", "copy 4 0 4 0 61");
        String lost = "NULL: s, t;";
        e.refusedIn(State.NEW, 36, lost, -11, "copy 0 0 1 0 0", "copy 0 0 0 0 0", "copy 3 -1 2 0 1", "copy 0 0 1 0 -1");
        e.refusedIn(State.TOLD, 36, lost, -11, "copy 3 0 0 0 0", "copy 0 0 3 0 0", "copy 3 0 3 0 0", "copy 0 -1 3 0 1", "copy 0 0 3 0 61");
        e.refusedIn(State.TOLD, 36, "STORE;", -14, "copy 0 0 1 0 1", "copy 1 0 0 0 1", "copy 0 0 2 0 0", "copy 2 0 1 0 0", "copy 0 -1 1 0 1",
            "copy 0 0 1 0 -1", "copy 0 7 1 0 0", "copy 0 0 1 5 1");
        e.refusedIn(State.FULL, 36, "STORE;", -14, "copy 0 0 2 0 60", "copy 2 0 3 0 60", "copy 3 0 1 0 24", "copy 0 0 3 0 61");
        String index = "INDEX: below 0, not so many.";
        e.refusedIn(State.TOLD, 36, index, -12, "copy 0 -1 0 0 1", "copy 0 0 0 -1 1", "copy 0 0 0 0 -1", "copy 0 6 0 0 1", "copy 0 0 0 6 1",
            "copy 0 0 0 0 7", "copy 0 1 0 0 6", "copy 0 0 0 1 6", "copy 0 7 0 0 0", "copy 0 0 0 7 0", "copy 0 -1 0 0 0", "copy 0 0 0 -1 0",
            "copy 2 0 2 0 1", "copy 2 1 2 0 0", "copy 2 0 2 1 0", "copy 2 0 2 0 -1");
        e.refusedIn(State.FULL, 36, index, -12, "copy 0 0 1 0 25", "copy 1 0 0 0 25", "copy 0 0 1 24 1", "copy 1 24 0 0 1", "copy 3 0 3 0 61",
            "copy 0 36 1 0 25", "copy 0 37 1 0 24", "copy 0 MAX 1 0 1", "copy 0 0 1 MAX 1", "copy 0 0 1 0 MAX", "copy 0 1 1 1 MAX",
            "copy 0 MAX 1 MAX MAX", "copy 0 MIN 1 0 1", "copy 0 0 1 MIN 1", "copy 0 0 1 0 MIN", "copy 0 MIN 1 MIN MIN", "copy 0 MAX 1 0 0");
    }

    private void write() {
        String all = "STANDING of the MAN in a TOWN behind NIGHTS 0 on comes to a SHEET from item 0 on, as many as there are items, 24 at most: how many.";
        e.edge(37, all, "sheet 0 0 0, write 0 0 = 0, write 7 0 = 0", "tell 0 a00d, sheet 0 1 1, write 0 0 = 1, get 0 1 0 = 1",
            "tell 0 b70d, sheet 3 2 23, write 7 3 = 23, get 3 2 0 = 0, get 3 2 1 = 1, get 3 2 22 = 22",
            "tell 0 b70d, sheet 3 2 24, write 7 3 = 24, get 3 2 23 = 23", """
            tell 0 b70d, sheet 3 0 60, put 3 0 24 9, put 3 0 59 8, put 3 0 0 7
            write 7 3 = 24, get 3 0 0 = 0, get 3 0 23 = 23, get 3 0 24 = 9, get 3 0 25 = 0, get 3 0 59 = 8, write 0 3 = 24, get 3 0 0..23 = 0
            """, "tell 0 a00s, times 8 event 2 0 0, sheet 0 0 25, write 0 0 = 24, get 0 0 0 = 27, get 0 0 12 = 39, get 0 0 13..23 = 40, get 0 0 24 = 0");
        e.refused(37, "BAD; NULL.", -2, "write -1 0", "write 8 0", "write MIN 0", "write MAX 0", "write 0 -1", "write 0 4", "write 0 MIN",
            "write 0 MAX", "write 8 3", "write 8 4");
        e.refusedIn(State.NEW, 37, "BAD; NULL.", -11, "write 0 0", "write 7 3");
        e.refusedIn(State.TOLD, 37, "BAD; NULL.", -11, "write 0 3", "write 7 3");
        e.refusedIn(State.FAULTY, 37, "BAD; NULL.", -11, "write 0 0", "write 7 2");
    }

    private void count() {
        e.edge(38, "0 TALES, 1 CHARGES, 2, 3 bytes of texts, 4 NEED, 5 EVENTS, 6 how many CHARGES he is CLEARED of, 7 SEEN,",
            "count 0..3 = 0, count 4 = 6, count 5..7 = 0",
            "tell 0 " + LONG_TALES + ", tell 1 a0;a2;a3;a4;a5;a6;a7;a1, need 1, times 8 event 2 0 0, times 8 seen 0 0\n"
            + "count 0 = 12, count 1 = 8, count 2 = 59, count 3 = 23, count 4 = 1, count 5 = 8, count 6 = 7, count 7 = 8\n"
            + "undo 0, undo 1, count 0..1 = 0, count 2 = 58, count 3 = 22, count 6 = 0");
        e.edge(38, "8 the number of the latest FINDING (0 before any).", """
            count 8 = 0, undo 0 = -3, back = -3, sheet 0 0 61 = -2, count 8 = 0
            lose 0 = -11, count 8 = 1, sheet 0 0 1, count 8 = 1, put 0 0 1 0 = -12, count 8 = 2, put 0 1 0 0 = -13, count 8 = 3
            sheet 1 1 1, copy 0 0 1 0 1 = -14, count 8 = 4, sheet 0 0 -1 = -15, count 8 = 5, get 0 0 0 = 0, count 8 = 5
            get 0 0 1 = MIN, count 8 = 2, get 0 1 0 = MIN, count 8 = 3, get 3 0 0 = MIN, count 8 = 1, count 9 = -2, count 8 = 1
            """);
        e.refused(38, "BAD.", -2, "count -1", "count 9", "count MIN", "count MAX");
    }

    private void digest() {
        e.edge(39, "h is 17; h becomes 31 h and each of:", "digest = " + EdgeDigest.of(new SwornElsewhere()));
        for (String piece : new String[] {"count() 0 to 7; of texts fault();",
            "of TOWNS 0 to 7 man(3, it, 0), man(12, it, 0), man(23, it, 0 and 1); of NIGHTS 0 to 23 where();",
            "of TALES tale() 0 to 3, stands() 0 to 2, move() 0, 1, was() 0, 1, ask();",
            "of CHARGES charge() 0, 1, belief(), cleared() 0, 1, chance(5, it), above, below;",
            "sum() 0 to 3, liar(), best(), drop() 0, 1, clean() 0, 1, spare(NONE), spare(0), never(), lives(7, 9, 0 and 1);",
            "as longs that wrap."}) {
            e.edge(39, piece);
        }
        for (State state : State.values()) {
            e.answers("39: digest, " + state, state.made().digest(), EdgeDigest.of(state.made()));
        }
        e.digested("tell 0 a01s;a52s;b33s, tell 1 a5;b1, need 3, drop 0 = 1, drop 1 = 2");
        e.digested("tell 0 a00s, tell 1 a1, need 3, event 1 0 0, event 0 0 0, spare -1 = 2, spare 0 = 0, spare 1 = 1");
        // By seed 7 the ninth is k28s, which counts by the fair, the tenth d02s.
        e.digested("tell 1 k0;d1;m0, need 3, event 1 12 6, lives 7 8 0 = 0, lives 7 9 0 = 1, lives 7 10 0 = 2");
    }

    /** What only asks changes nothing, the findings not either. */
    private void asking() {
        for (State state : State.values()) {
            e.changesNothing(state, "fault 0", "fault 1", "liar", "best", "where 12", "drop 0", "drop 1", "clean 0", "clean 1", "spare -1",
                "spare 0", "spare 1", "never", "lives 7 12 0", "lives MIN 9 1", "count 6", "count 8", "digest", "man 23 1 1", "sum 0", "sum 3",
                "move 0 0", "was 0 0", "was 0 1", "ask 0", "stands 1 0", "cleared 0 1", "chance 7 0 0", "belief 0", "clash 0 1", "tale 0 0",
                "charge 0 0");
        }
    }

    /** The last of the 512 calls of an object is as good as the first. */
    private void manyCalls() {
        SwornElsewhere x = State.TOLD.made();
        long first = x.digest();
        long last = 0;
        for (int i = 0; i < 400; i++) {
            last = x.digest();
        }
        e.answers("512 calls: digest", last, first);
    }
}
