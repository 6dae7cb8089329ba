/** Promises 12 to 24. */
final class EdgeStand {
    private static final String TWELVE = "a00s;".repeat(11) + "a70s";
    private final Edges e;

    EdgeStand(Edges e) {
        this.e = e;
    }

    void all() {
        clash();
        stands();
        man();
        belief();
        cleared();
        sum();
        ofAll();
        where();
        move();
        drop();
        clean();
        spare();
    }

    private void clash() {
        e.edge(12, "CLASH.", "tell 0 " + TWELVE + ", clash 0 11 = 1, clash 11 0 = 1, clash 0 10 = 0, clash 11 10 = 1, clash 0 12 = -2, clash 12 0 = -2");
        e.refused(12, "BAD (one and the same, too).", -2, "clash -1 0", "clash 0 -1", "clash 12 0", "clash 0 12", "clash MIN 0",
            "clash 0 MAX", "clash 0 0", "clash -1 -1", "clash 12 12");
        e.refusedIn(State.NEW, 12, "BAD (one and the same, too).", -2, "clash 0 1", "clash 1 0");
        e.refusedIn(State.FAULTY, 12, "BAD (one and the same, too).", -2, "clash 0 1", "clash 10 11");
        e.refusedIn(State.TOLD, 12, "BAD (one and the same, too).", -2, "clash 5 5", "clash 6 5", "clash 5 6", "clash 6 6");
        e.refusedIn(State.FULL, 12, "BAD (one and the same, too).", -2, "clash 11 11");
    }

    private void stands() {
        e.edge(13, "Whether it COUNTS (what = 0: 1, 0), what it WEIGHS (1), with which it CLASHES (2; NONE).",
            "tell 0 " + TWELVE + ", stands 0 0 = 1, stands 0 1 = 3, stands 0 2 = -1, stands 11 0 = 0, stands 11 1 = 0, stands 11 2 = 0");
        e.refused(13, "BAD.", -2, "stands -1 0", "stands 12 0", "stands MIN 0", "stands MAX 0", "stands 0 -1", "stands 0 3",
            "stands 0 MIN", "stands 0 MAX", "stands 12 3");
        e.refusedIn(State.NEW, 13, "BAD.", -2, "stands 0 0", "stands 0 2");
        e.refusedIn(State.FAULTY, 13, "BAD.", -2, "stands 0 0", "stands 11 2");
        e.refusedIn(State.TOLD, 13, "BAD.", -2, "stands 6 0", "stands 5 3");
    }

    private void man() {
        e.edge(14, "STANDING (what = 0), RANK (1).", "man 0..23 7 0 = 0", "man 0..23 7 1 = 0",
            "tell 0 a00s;x71s, man 0 0 0 = 3, man 0 0 1 = 1, man 23 7 0 = 3, man 23 7 1 = 1, man 22 7 0..1 = 0");
        e.refused(14, "BAD.", -2, "man -1 0 0", "man 24 0 0", "man MIN 0 0", "man MAX 0 0", "man 0 -1 0", "man 0 8 0", "man 0 MIN 0",
            "man 0 MAX 0", "man 0 0 -1", "man 0 0 2", "man 0 0 MIN", "man 0 0 MAX", "man 24 8 2");
    }

    private void belief() {
        e.edge(15, "BELIEF.", "tell 1 a0;a1;a2;a3;a4;a5;a6;a7, tell 0 a00s, belief 0 = -3, belief 1..7 = 3, belief 8 = MIN");
        e.refused(15, "BAD: the least int.", Integer.MIN_VALUE, "belief -1", "belief 8", "belief MIN", "belief MAX");
        e.refusedIn(State.NEW, 15, "BAD: the least int.", Integer.MIN_VALUE, "belief 0");
        e.refusedIn(State.FAULTY, 15, "BAD: the least int.", Integer.MIN_VALUE, "belief 0", "belief 7");
        e.refusedIn(State.TOLD, 15, "BAD: the least int.", Integer.MIN_VALUE, "belief 3");
    }

    private void cleared() {
        e.edge(16, "Whether he is CLEARED (what = 0: 1, 0), the TOWN (1).",
            "tell 1 a0;a1;a2;a3;a4;a5;a6;a7, need 3, tell 0 a70s, cleared 0..6 0 = 1, cleared 7 0 = 0, cleared 0..6 1 = 7, cleared 7 1 = 0, cleared 8 0 = -2");
        e.refused(16, "BAD.", -2, "cleared -1 0", "cleared 8 0", "cleared MIN 0", "cleared MAX 0", "cleared 0 -1", "cleared 0 2",
            "cleared 0 MIN", "cleared 0 MAX", "cleared 8 2");
        e.refusedIn(State.NEW, 16, "BAD.", -2, "cleared 0 0", "cleared 0 1");
        e.refusedIn(State.FAULTY, 16, "BAD.", -2, "cleared 0 0", "cleared 7 1");
        e.refusedIn(State.TOLD, 16, "BAD.", -2, "cleared 3 0", "cleared 2 2");
    }

    private void sum() {
        e.edge(17, "SUM: CHARGES (what = 0), TALES (1), MEN (2), churchwardens (3).", "sum 0..3 = 0",
            "tell 0 a00s;x11s;x22s;a70s, tell 1 a1, need 3, sum 0 = 1, sum 1 = 3, sum 2 = 3, sum 3 = 1");
        e.refused(17, "BAD.", -2, "sum -1", "sum 4", "sum MIN", "sum MAX");
    }

    private void ofAll() {
        e.edge(18, "LIAR; NONE.", "liar = -1", "tell 0 " + TWELVE + ", liar = 0, undo 0, liar = -1", "tell 0 x79s, liar = -1, event 0 23 9, liar = 9");
        e.edge(19, "BEST; NONE.", "best = -1", "tell 0 x79s, best = 7, undo 0, best = -1", "tell 0 x79s, event 0 23 9, best = -1");
    }

    private void where() {
        e.edge(20, "WHERE, as bits.", "where 0..23 = 255", "tell 0 a00s;x71s, where 0 = 1, where 23 = 128",
            "tell 0 a00s;a71s, where 0..23 = 0", "tell 0 a00s;a71!, where 0..23 = 255");
        e.refused(20, "BAD.", -2, "where -1", "where 24", "where MIN", "where MAX");
    }

    private void move() {
        e.edge(21, "MOVE: which (what = 0), how many (1).",
            "tell 0 " + "x50d;".repeat(11) + "a40s, need 3, tell 1 a0;a1;a2;a3;a4;a5;a6, move 11 0 = 7, move 11 1 = 7, move 0 0 = 0, move 0 1 = 6");
        e.refused(21, "BAD.", -2, "move -1 0", "move 12 0", "move MIN 0", "move MAX 0", "move 0 -1", "move 0 2", "move 0 MIN",
            "move 0 MAX", "move 12 2");
        e.refusedIn(State.NEW, 21, "BAD.", -2, "move 0 0", "move 0 1");
        e.refusedIn(State.FAULTY, 21, "BAD.", -2, "move 0 0", "move 11 1");
        e.refusedIn(State.TOLD, 21, "BAD.", -2, "move 6 0", "move 5 2");
    }

    private void drop() {
        e.edge(22, "DROP: which (what = 0), how many (1); NONE.", "drop 0..1 = -1, drop -1 = -2, drop 2 = -2",
            "tell 0 a00s, tell 1 b0;a1, need 3, drop 0..1 = 0", "tell 0 a00s;b11s, tell 1 a1, need 3, drop 0 = 1, drop 1 = 1");
        e.refused(22, "BAD.", -2, "drop -1", "drop 2", "drop MIN", "drop MAX");
    }

    private void clean() {
        e.edge(23, "CLEAN: how many (what = 0), which, as bits (1).", "clean 0..1 = 0",
            "tell 0 " + TWELVE + ", clean 0 = 11, clean 1 = 2047, undo 0, clean 0..1 = 0");
        e.refused(23, "BAD.", -2, "clean -1", "clean 2", "clean MIN", "clean MAX");
    }

    private void spare() {
        e.edge(24, "SPARE: how many (i = NONE), the i-th (0, 1; NONE); NONE.", "spare -1 = 0, spare 0..1 = -1, spare -2 = -2, spare 2 = -2",
            "tell 0 a00s, tell 1 a1, need 3, event 1 0 0, spare -1 = 1, spare 0 = 0, spare 1 = -1, event 0 0 0, spare -1 = 2, spare 0 = 0, spare 1 = 1",
            "tell 1 a1, event 1 0 0, spare -1..1 = -1");
        e.refused(24, "BAD.", -2, "spare -2", "spare 2", "spare MIN", "spare MAX");
    }
}
