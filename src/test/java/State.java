/** States in which a call may be refused. */
enum State {
    /** Nothing was called yet. */
    NEW(""),
    /** Some of all; sheet 3 is lost, sheet 2 has no items, the latest finding is SIZE. */
    TOLD("""
        tell 0 a01s;c12d;c13d;c10k;e30s;e34d
        tell 1 c0;c1;e1
        need 4, event 0 4 4, event 1 2 1, seen 1 0
        sheet 0 0 6, put 0 0 0 -128, put 0 0 5 127
        sheet 1 1 5, put 1 1 0 32767, put 1 1 4 -32768
        sheet 2 2 0, sheet 3 0 -1
        """),
    /** Nothing more can come. */
    FULL("tell 0 a01s;c12d;c13d;c10k;e30s;e34d;f25s;g61k;h61k;i40s;c11d;x73s\n" + """
        tell 1 c0;c1;e1;f2;g3;i7;x7;a1
        need 40, times 2 event 2 0 0, event 2 2 1, event 0 23 9, event 1 2 0, event 2 23 9, event 0 0 4, event 1 8 4
        need 3, seen 0 1, times 7 seen 7 0
        sheet 0 0 60, put 0 0 0 1, put 0 0 59 2
        sheet 1 0 24, put 1 0 0 3, put 1 0 23 4
        sheet 2 1 60, put 2 1 0 5, put 2 1 59 6
        sheet 3 2 60, put 3 2 0 MAX, put 3 2 59 7
        """),
    /** Both texts are full and have a fault in their last byte; the latest finding is INDEX. */
    FAULTY("""
        tell 0 a01s;c12d;c13d;c10k;e30s;e34d;f25s;g61k;h61k;i40s;c11d;x73!
        tell 1 c0;c1;e1;f2;g3;i7;x7;a!
        event 0 4 4, seen 0 0
        sheet 1 1 2, put 1 1 2 0
        """);

    private final String run;

    State(String run) {
        this.run = run;
    }

    SwornElsewhere made() {
        SwornElsewhere x = new SwornElsewhere();
        Words.run(null, "", x, run);
        return x;
    }
}
