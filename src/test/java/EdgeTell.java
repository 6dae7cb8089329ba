/** Promises 1 to 11. */
final class EdgeTell {
    private static final String TWELVE = "a00s;".repeat(11) + "x79k";
    private static final String EIGHT = "a0;".repeat(7) + "x7";
    private final Edges e;

    EdgeTell(Edges e) {
        this.e = e;
    }

    void all() {
        made();
        type();
        wipe();
        undo();
        fault();
        tale();
        charge();
        need();
        event();
        back();
        read();
        readUpToOne();
    }

    private void made() {
        e.edge(1, "No TALES, no CHARGES, NEED 6, no EVENTS;",
            "count 0..3 = 0, count 4 = 6, count 5..8 = 0, fault 0..1 = -1, undo 0..1 = -3, back = -3, forget = 0");
        e.edge(1, "all SHEETS are LOST.", "lose 0..3 = -11", "read 0..3 = -11", "write 0 0..3 = -11");
    }

    private void type() {
        e.edge(2, "A byte (0 to 255) comes behind a text: how many.",
            "type 0 0 = 1, type 0 255 = 2, type 0 97 = 3, type 1 255 = 1, type 1 0 = 2, count 2 = 3, count 3 = 2",
            "times 58 type 0 97, type 0 255 = 59, type 1 97 = 1", "times 22 type 1 97, type 1 0 = 23, type 0 97 = 1");
        e.refused(2, "BAD; FULL.", -2, "type -1 97", "type 2 97", "type MIN 97", "type MAX 97", "type 0 -1", "type 0 256",
            "type 1 -1", "type 1 256", "type 0 MIN", "type 1 MAX", "type 2 256");
        for (State full : new State[] {State.FULL, State.FAULTY}) {
            e.refusedIn(full, 2, "BAD; FULL.", -4, "type 0 97", "type 1 97", "type 0 0", "type 1 255", "type 0 59", "type 1 59");
        }
    }

    private void wipe() {
        e.edge(3, "A text is empty: how many bytes it had.", "wipe 0..1 = 0, count 2..3 = 0",
            "tell 0 " + TWELVE + ", tell 1 " + EIGHT + ", wipe 0 = 59, count 0 = 0, count 2 = 0, count 1 = 8, wipe 1 = 23, count 1 = 0",
            "tell 0 a00!, tell 1 a, wipe 1 = 1, fault 1 = -1, fault 0 = 3, wipe 0 = 4, fault 0 = -1, wipe 0 = 0",
            "tell 0 " + TWELVE + ", type 0 97 = -4, wipe 0 = 59, type 0 97 = 1");
        e.refused(3, "BAD.", -2, "wipe -1", "wipe 2", "wipe MIN", "wipe MAX");
    }

    private void undo() {
        e.edge(4, "The last byte of a text is undone: how many are left.",
            "tell 0 a, tell 1 a, undo 0 = 0, fault 0 = -1, count 3 = 1, undo 1 = 0, undo 1 = -3",
            "tell 0 " + TWELVE + ", undo 0 = 58, count 0 = 0, fault 0 = 58, type 0 115 = 59, tale 11 3 = 0, type 0 97 = -4",
            "tell 1 " + EIGHT + ", undo 1 = 22, count 1 = 0, fault 1 = 22, type 1 54 = 23, charge 7 1 = 6, type 1 97 = -4",
            "tell 0 a00s!, undo 0 = 4, count 0 = 1");
        e.refused(4, "BAD;", -2, "undo -1", "undo 2", "undo MIN", "undo MAX");
        e.refusedIn(State.NEW, 4, "NOT: it is empty.", -3, "undo 0", "undo 1");
        e.edge(4, "NOT: it is empty.", "tell 0 a00s, undo 1 = -3, count 0 = 1, undo 0 = 3, wipe 0, undo 0 = -3, tell 1 a0, undo 0 = -3");
    }

    private void fault() {
        e.edge(5, "The FAULT of a text; NONE.", "fault 0..1 = -1, type 0 33, fault 0 = 0, fault 1 = -1, type 1 33, fault 1 = 0",
            "tell 0 " + TWELVE + ", tell 1 " + EIGHT + ", fault 0..1 = -1, undo 0, fault 0 = 58, undo 1, fault 1 = 22");
        e.refused(5, "BAD.", -2, "fault -1", "fault 2", "fault MIN", "fault MAX");
    }

    private void tale() {
        e.edge(6, "The NIGHT (what = 0), TOWN (1), WITNESS (2), sort (3: 0 s, 1 d, 2 k) of a TALE as told.",
            "tell 0 a00s;x79k;b23d, tale 0 0..3 = 0, tale 1 0 = 23, tale 1 1 = 7, tale 1 2 = 9, tale 1 3 = 2, tale 2 3 = 1",
            "tell 0 " + TWELVE + ", tale 0 0..3 = 0, tale 10 0..3 = 0, tale 11 0 = 23, tale 11 1 = 7, tale 11 2 = 9, tale 11 3 = 2",
            "tell 0 b23d, event 0 0 3, move 0 0, was 0 0, was 0 1, lives 1 12 0, tale 0 0 = 1, tale 0 1 = 2, tale 0 2 = 3, tale 0 3 = 1");
        e.refused(6, "BAD.", -2, "tale -1 0", "tale 12 0", "tale MIN 0", "tale MAX 0", "tale 0 -1", "tale 0 4", "tale 0 MIN",
            "tale 0 MAX", "tale 12 4");
        e.refusedIn(State.NEW, 6, "BAD.", -2, "tale 0 0", "tale 0 3");
        e.refusedIn(State.FAULTY, 6, "BAD.", -2, "tale 0 0", "tale 11 3");
        e.refusedIn(State.TOLD, 6, "BAD.", -2, "tale 6 0", "tale 5 4");
    }

    private void charge() {
        e.edge(7, "The NIGHT (what = 0), TOWN (1) of a CHARGE as told.",
            "tell 1 a0;x7;b3, charge 0 0..1 = 0, charge 1 0 = 23, charge 1 1 = 7, charge 2 0 = 1, charge 2 1 = 3",
            "tell 1 " + EIGHT + ", charge 0 0..1 = 0, charge 6 0..1 = 0, charge 7 0 = 23, charge 7 1 = 7");
        e.refused(7, "BAD.", -2, "charge -1 0", "charge 8 0", "charge MIN 0", "charge MAX 0", "charge 0 -1", "charge 0 2",
            "charge 0 MIN", "charge 0 MAX", "charge 8 2");
        e.refusedIn(State.NEW, 7, "BAD.", -2, "charge 0 0", "charge 0 1");
        e.refusedIn(State.FAULTY, 7, "BAD.", -2, "charge 0 0", "charge 7 1");
        e.refusedIn(State.TOLD, 7, "BAD.", -2, "charge 3 0", "charge 2 2");
    }

    private void need() {
        e.edge(8, "NEED: what it was.", "need 6 = 6, need 1 = 6, need 40 = 1, need 39 = 40, count 4 = 39",
            "tell 0 a00s, tell 1 a1, need 3, cleared 0 0 = 1, need 41 = -2, need 0 = -2, cleared 0 0 = 1");
        e.refused(8, "BAD.", -2, "need 0", "need 41", "need -1", "need MIN", "need MAX");
    }

    private void event() {
        e.edge(9, "An EVENT more: how many.", "event 0 0 0 = 1, event 1 23 9 = 2, event 2 0 9 = 3, count 5 = 3",
            "times 7 event 2 0 0, event 2 0 0 = 8, event 2 0 0 = -4, tell 0 a00s, man 0 0 0 = 27",
            "tell 0 a00s, times 7 event 2 0 9, event 1 0 0 = 8, stands 0 0 = 0, back, event 0 0 0 = 8, stands 0 0 = 0");
        e.refused(9, "BAD; FULL.", -2, "event -1 0 0", "event 3 0 0", "event MIN 0 0", "event MAX 0 0", "event 0 -1 0",
            "event 0 24 0", "event 0 MIN 0", "event 0 MAX 0", "event 0 0 -1", "event 0 0 10", "event 0 0 MIN", "event 0 0 MAX",
            "event 1 0 10", "event 2 0 10", "event 3 24 10");
        e.refusedIn(State.FULL, 9, "BAD; FULL.", -4, "event 0 0 0", "event 1 12 7", "event 2 23 9");
    }

    private void back() {
        e.edge(10, "The last EVENT is undone: how many are left.", "event 0 0 0, back = 0, count 5 = 0, back = -3",
            "times 8 event 0 0 0, back = 7, event 2 0 0 = 8, event 2 0 0 = -4, times 7 back, back = 0, back = -3",
            "tell 0 a00s;a01s, event 0 0 0, event 0 0 1, back = 1, stands 0 0 = 0, stands 1 0 = 1, back = 0, stands 0 0 = 1");
        e.refusedIn(State.NEW, 10, "NOT: there is none.", -3, "back");
        e.edge(10, "NOT: there is none.", "tell 0 a00s, seen 0 0, sheet 0 0 3, back = -3, read 0 = 1, back = 0, back = -3");
    }

    private void read() {
        String whole = "EVENTS from a SHEET: its items, three for each, as many as are whole,";
        for (int n = 0; n <= 60; n++) {
            int many = Math.min(8, n / 3);
            e.edge(11, whole, "sheet 3 " + n % 3 + " " + n + ", read 3 = " + many + ", count 5 = " + many + ", count 8 = 0");
        }
        e.edge(11, whole, """
            tell 0 a00s;b12s, sheet 0 0 6, put 0 0 0 1, put 0 0 3 1, put 0 0 4 1, put 0 0 5 1
            read 0 = 2, stands 0..1 0 = 0, back = 1, stands 0 0 = 0, stands 1 0 = 1, lose 0 = 6, count 5 = 1
            """);
        e.refused(11, "BAD; NULL.", -2, "read -1", "read 4", "read MIN", "read MAX");
        e.refusedIn(State.NEW, 11, "BAD; NULL.", -11, "read 0", "read 1", "read 2", "read 3");
        e.refusedIn(State.TOLD, 11, "BAD; NULL.", -11, "read 3");
        e.refusedIn(State.FAULTY, 11, "BAD; NULL.", -11, "read 0", "read 2", "read 3");
        // Nothing comes, and nothing is found.
        e.refusedIn(State.FULL, 11, "as long as each may be: how many.", 0, "read 0", "read 3");
        e.refusedIn(State.TOLD, 11, "as long as each may be: how many.", 0, "read 0", "read 1", "read 2");
    }

    /** Three events of which the second has one number that may be or may not. */
    private void readUpToOne() {
        String sentence = "as long as each may be: how many.";
        int[][] taken = {{0, 0, 0}, {2, 0, 0}, {0, 23, 0}, {0, 0, 9}, {2, 23, 9}};
        int[][] not = {{-1, 0, 0}, {3, 0, 0}, {0, -1, 0}, {0, 24, 0}, {0, 0, -1}, {0, 0, 10}};
        for (int form = 0; form < 3; form++) {
            for (int[] second : taken) {
                e.edge(11, sentence, three(form, second) + ", read 0 = 3, count 5 = 3, count 8 = 0");
            }
            for (int[] second : not) {
                e.edge(11, sentence, three(form, second) + ", read 0 = 1, count 5 = 1, count 8 = 0");
            }
        }
        e.edge(11, sentence, "sheet 0 0 3, put 0 0 0 256, put 0 0 1 279, put 0 0 2 -247, read 0 = 1", "sheet 0 0 3, put 0 0 1 200, read 0 = 0",
            "sheet 0 1 3, put 0 1 0 65538, put 0 1 1 65536, read 0 = 1", "sheet 0 2 3, put 0 2 0 65536, read 0 = 0",
            "sheet 0 2 3, put 0 2 1 MIN, read 0 = 0, put 0 2 1 MAX, read 0 = 0, put 0 2 1 23, read 0 = 1",
            "sheet 0 0 9, times 6 event 2 0 0, read 0 = 2, count 5 = 8, read 0 = 0, back, read 0 = 1, count 5 = 8");
    }

    private static String three(int form, int[] second) {
        StringBuilder run = new StringBuilder("sheet 0 " + form + " 9");
        for (int i = 0; i < 3; i++) {
            run.append(", put 0 ").append(form).append(' ').append(3 + i).append(' ').append(second[i]);
        }
        return run.toString();
    }
}
