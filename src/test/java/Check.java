/** Counts and tells the answers that are not the ones that are due. */
final class Check {
    static final long LEAST = Integer.MIN_VALUE;
    private int wrong = 0;
    private int asked = 0;

    void due(String what, long got, long want) {
        asked++;
        if (got != want) {
            wrong++;
            System.out.println(what + " answered " + got + ", due is " + want);
        }
    }

    void dueAll(String what, long[] got, long... want) {
        due(what + ": how many", got.length, want.length);
        for (int i = 0; i < Math.min(got.length, want.length); i++) {
            due(what + ", place " + i, got[i], want[i]);
        }
    }

    /** Ends the test, by exit code 1 if an answer was wrong. */
    void end() {
        System.out.println(asked + " answers, " + wrong + " wrong");
        if (wrong > 0 || asked == 0) {
            System.exit(1);
        }
    }

    /** Puts a whole text in place of what was typed. */
    static void tell(SwornElsewhere x, int text, String told) {
        x.wipe(text);
        for (int i = 0; i < told.length(); i++) {
            x.type(text, told.charAt(i));
        }
    }

    static SwornElsewhere of(String tales, String charges) {
        SwornElsewhere x = new SwornElsewhere();
        tell(x, 0, tales);
        tell(x, 1, charges);
        return x;
    }
}
