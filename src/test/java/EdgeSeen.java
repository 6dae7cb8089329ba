/** Promises 25 to 31. */
final class EdgeSeen {
    private static final long LONG_BAD = Long.MIN_VALUE + 2;
    private final Edges e;

    EdgeSeen(Edges e) {
        this.e = e;
    }

    void all() {
        seen();
        forget();
        never();
        was();
        ask();
        chance();
        lives();
    }

    private void seen() {
        e.edge(25, "SEEN more: how many.", "seen 0 0 = 1, seen 7 1 = 2, seen 0 0 = 3, count 7 = 3",
            "times 7 seen 7 0, seen 0 1 = 8, seen 0 1 = -4, count 7 = 8, forget = 8, seen 0 1 = 1",
            "tell 0 a00s, tell 1 a1, need 3, event 2 0 0, times 7 seen 0 1, never = 1, seen 0 0 = 8, never = 0");
        e.refused(25, "BAD; FULL.", -2, "seen -1 0", "seen 8 0", "seen MIN 0", "seen MAX 0", "seen 0 -1", "seen 0 2", "seen 0 MIN",
            "seen 0 MAX", "seen 8 2");
        e.refusedIn(State.FULL, 25, "BAD; FULL.", -4, "seen 0 0", "seen 0 1", "seen 7 0", "seen 7 1");
    }

    private void forget() {
        e.edge(26, "All SEEN are forgotten: how many.", "forget = 0", "seen 0 0, forget = 1, count 7 = 0, forget = 0",
            "times 8 seen 7 1, event 0 0 0, never = 0, forget = 8, never = 1, count 7 = 0, count 5 = 1, forget = 0");
    }

    private void never() {
        e.edge(27, "NEVER, as bits.", "never = 0", "times 8 event 0 0 0, never = 255, seen 0 0, never = 0, forget, times 8 back, never = 0");
    }

    private void was() {
        e.edge(28, "BY (what = 0), SORT (1), as bits.", "tell 0 " + "a00s;".repeat(11) + "x79k, was 0..11 0 = 1023, was 0..11 1 = 7, was 12 0 = -2",
            "tell 0 a00s, seen 7 1, was 0 0..1 = 0");
        e.refused(28, "BAD.", -2, "was -1 0", "was 12 0", "was MIN 0", "was MAX 0", "was 0 -1", "was 0 2", "was 0 MIN", "was 0 MAX", "was 12 2");
        e.refusedIn(State.NEW, 28, "BAD.", -2, "was 0 0", "was 0 1");
        e.refusedIn(State.FAULTY, 28, "BAD.", -2, "was 0 0", "was 11 1");
        e.refusedIn(State.TOLD, 28, "BAD.", -2, "was 6 0", "was 5 2");
    }

    private void ask() {
        e.edge(29, "ASK.", "tell 0 " + "x50s;".repeat(11) + "a01s, tell 1 b1;b2;b3;b4;b5;b6;b7;a1, need 3, event 0 0 0, ask 11 = 7, ask 0 = 0, ask 12 = -2");
        e.refused(29, "BAD.", -2, "ask -1", "ask 12", "ask MIN", "ask MAX");
        e.refusedIn(State.NEW, 29, "BAD.", -2, "ask 0");
        e.refusedIn(State.FAULTY, 29, "BAD.", -2, "ask 0", "ask 11");
        e.refusedIn(State.TOLD, 29, "BAD.", -2, "ask 6");
    }

    private void chance() {
        e.edge(30, "CHANCE: above, below.", "tell 0 a00s, tell 1 a1, need 3, event 1 0 0, chance 3 0 0 = 13, chance 3 0 1 = 16",
            "tell 0 a00s, tell 1 a1;a1;a1;a1;a1;a1;a1;a0, need 3, chance 0 7 0 = 0, chance 0 7 1 = 1, chance 16 6 0..1 = 1");
        e.refused(30, "BAD. (As the least long.)", LONG_BAD, "chance -1 0 0", "chance 17 0 0", "chance MIN 0 0", "chance MAX 0 0",
            "chance 0 -1 0", "chance 0 8 0", "chance 0 MIN 0", "chance 0 MAX 0", "chance 0 0 -1", "chance 0 0 2", "chance 0 0 MIN",
            "chance 0 0 MAX", "chance 17 8 2");
        e.refusedIn(State.NEW, 30, "BAD. (As the least long.)", LONG_BAD, "chance 0 0 0", "chance 16 0 1");
        e.refusedIn(State.FAULTY, 30, "BAD. (As the least long.)", LONG_BAD, "chance 0 0 0", "chance 16 7 1");
        e.refusedIn(State.TOLD, 30, "BAD. (As the least long.)", LONG_BAD, "chance 0 3 0", "chance 16 3 1");
    }

    private void lives() {
        e.edge(31, "LIVES: CHARGES (what = 0), TALES (1).", "lives 0 0 0..1 = 0, lives MIN 0 1 = 0, lives MAX 0 1 = 0",
            "tell 1 a1, need 3, lives 0 1 0..1 = 1, lives MIN 1 0 = 0, lives MIN 1 1 = 1, lives MAX 1 0 = 0, lives MAX 1 1 = 1",
            // By the least seed, i48d alone of the ninth night; by the greatest, r10s alone of the eighteenth.
            "tell 1 i0;r0, need 1, lives MIN 1 0 = 1, lives MAX 1 0 = 1, need 2, lives MIN 1 0 = 0, lives MAX 1 0 = 1",
            "tell 1 a1, need 3, lives 0 1 0 = 1, lives 0 1 0 = 1, lives 7 12 0, lives 0 1 0 = 1, count 0 = 0");
        e.refused(31, "BAD.", -2, "lives 1 -1 0", "lives 1 13 0", "lives 1 MIN 0", "lives 1 MAX 0", "lives 1 0 -1", "lives 1 0 2",
            "lives 1 0 MIN", "lives 1 0 MAX", "lives MIN 13 2");
    }
}
