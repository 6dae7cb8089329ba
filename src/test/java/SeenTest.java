import java.math.BigInteger;

/** Promises 25 to 31: seen, forget, never, was, ask, chance, lives. */
public final class SeenTest {
    private static final Check CHECK = new Check();
    private static final long BAD = Long.MIN_VALUE + 2;

    public static void main(String[] args) {
        seenAndForget();
        never();
        was();
        ask();
        chance();
        chancesOfEight();
        chanceRefused();
        lives();
        CHECK.end();
    }

    private static void due(String what, long got, long want) {
        CHECK.due(what, got, want);
    }

    private static void seenAndForget() {
        SwornElsewhere x = new SwornElsewhere();
        for (int[] b : new int[][] {{-1, 0}, {8, 0}, {0, -1}, {0, 2}}) {
            due("25: BAD", x.seen(b[0], b[1]), -2);
        }
        due("26: nothing", x.forget(), 0);
        for (int i = 1; i <= 8; i++) {
            due("25: seen", x.seen(i - 1, i % 2), i);
            due("25: told by count", x.count(7), i);
        }
        due("25: FULL", x.seen(0, 0), -4);
        due("25: BAD is ahead of FULL", x.seen(8, 0), -2);
        due("26: all", x.forget(), 8);
        due("26: none is left", x.count(7), 0);
        due("26: again", x.forget(), 0);
        due("25: anew", x.seen(0, 0), 1);
    }

    private static void never() {
        SwornElsewhere x = Check.of("a01s;b12s", "a5;b5");
        x.need(3);
        due("27: no events", x.never(), 0);
        x.event(1, 0, 0);
        x.event(0, 1, 2);
        x.event(2, 0, 0);
        due("27: nothing seen", x.never(), 7);
        x.seen(0, 1);
        due("27: but for the fair", x.never(), 1);
        x.seen(1, 0);
        due("27: alone", x.never(), 1);
        x.seen(1, 1);
        due("27: both cannot be", x.never(), 0);
        x.forget();
        x.seen(0, 0);
        due("27: not cleared", x.never(), 6);
        x.forget();
        x.seen(2, 0);
        due("27: of no such charge", x.never(), 0);
        x.forget();
        x.seen(2, 1);
        due("27: of no such charge", x.never(), 0);
    }

    private static void was() {
        SwornElsewhere x = Check.of("a01s;a32d;a33d", "a5");
        due("28: nothing seen", x.was(0, 0), 1023);
        due("28: nothing seen", x.was(0, 1), 7);
        x.need(4);
        // Of the two in town 3 each weighs 2 if the witnesses are two, 1 if it is one.
        due("28: cleared", x.cleared(0, 0), 1);
        x.seen(0, 1);
        due("28: any but 1, who was in town 0, and the other", x.was(1, 0), 1023 - 2 - 8);
        due("28: any but 1, who was in town 0, and the other", x.was(2, 0), 1023 - 2 - 4);
        due("28: any but the two, who would clash with it", x.was(0, 0), 1023 - 4 - 8);
        x.need(5);
        x.forget();
        x.seen(0, 1);
        due("28: sworn only", x.was(1, 1), 1);
        due("28: by no witness", x.was(1, 0), 0);
        x.forget();
        x.seen(0, 0);
        due("28: not sworn", x.was(1, 1), 6);
        due("28: nothing is changed", x.tale(1, 3), 1);
        for (int[] b : new int[][] {{-1, 0}, {3, 0}, {0, -1}, {0, 2}}) {
            due("28: BAD", x.was(b[0], b[1]), -2);
        }
    }

    private static void ask() {
        SwornElsewhere x = Check.of("a01s;a32s;b43s", "c0;a0;b0;b4");
        x.need(3);
        // The third tale clashes with the first if by 1; with none if by 2; the turned do not count.
        x.event(0, 1, 7);
        x.event(0, 1, 8);
        x.event(0, 1, 9);
        due("29: of b0 alone they differ", x.ask(2), 2);
        x.event(0, 1, 6);
        due("29: by five of ten", x.ask(2), 2);
        x.seen(2, 1);
        due("29: all alike, the least", x.ask(2), 0);
        x.seen(2, 0);
        due("29: none fits", x.ask(2), 0);
        due("29: BAD", x.ask(-1), -2);
        due("29: BAD", x.ask(3), -2);
        due("29: nothing is changed", x.tale(2, 2), 3);
        // Two charges that part the witnesses unlike: the second more evenly.
        SwornElsewhere y = Check.of("a01s;b00s", "a1;b1");
        y.need(3);
        y.event(0, 0, 1);
        for (int w = 2; w < 6; w++) {
            y.event(0, 1, w);
        }
        due("29: the more even", y.ask(1), 1);
        // Witness 0 alone does not count, so of ten only the first charge parts one from nine.
        SwornElsewhere z = Check.of("a01s", "a1;b1;b2");
        z.need(3);
        z.event(0, 0, 0);
        due("29: one of ten", z.ask(0), 0);
        Check.tell(z, 1, "b1;b2;a1");
        due("29: one of ten", z.ask(0), 2);
        Check.tell(z, 1, "");
        due("29: no charges", z.ask(0), 0);
        due("29: but one", y.ask(0), 0);
    }

    private static void fraction(SwornElsewhere x, int c, int charge, long above, long below) {
        due("30: above by " + c, x.chance(c, charge, 0), above);
        due("30: below by " + c, x.chance(c, charge, 1), below);
    }

    private static void chance() {
        SwornElsewhere x = Check.of("a01s;b12s", "a5;b5;c5");
        x.need(3);
        fraction(x, 5, 0, 1, 1);
        fraction(x, 5, 2, 0, 1);
        x.event(1, 0, 0);
        fraction(x, 5, 0, 11, 16);
        fraction(x, 8, 0, 1, 2);
        fraction(x, 4, 0, 3, 4);
        fraction(x, 0, 0, 1, 1);
        fraction(x, 16, 0, 0, 1);
        x.event(0, 0, 1);
        fraction(x, 5, 0, 121, 256);
        fraction(x, 12, 0, 1, 16);
        fraction(x, 5, 1, 1, 1);
        due("30: all are still", x.count(5), 2);
        // A letter that is needed.
        SwornElsewhere y = Check.of("a01s", "a5");
        y.event(2, 0, 0);
        fraction(y, 5, 0, 5, 16);
        fraction(y, 0, 0, 0, 1);
        fraction(y, 16, 0, 1, 1);
        y.event(2, 0, 0);
        fraction(y, 5, 0, 256 - 121, 256);
    }

    private static void chancesOfEight() {
        SwornElsewhere x = Check.of("a01s", "a5");
        x.need(3);
        for (int i = 0; i < 8; i++) {
            x.event(1, 0, 0);
        }
        for (int c = 0; c <= 16; c++) {
            BigInteger above = BigInteger.valueOf(16 - c).pow(8);
            BigInteger below = BigInteger.valueOf(16).pow(8);
            BigInteger by = above.gcd(below);
            fraction(x, c, 0, above.divide(by).longValueExact(), below.divide(by).longValueExact());
        }
    }

    private static void chanceRefused() {
        SwornElsewhere x = Check.of("a01s", "a5");
        for (int[] b : new int[][] {{-1, 0, 0}, {17, 0, 0}, {0, -1, 0}, {0, 1, 0}, {0, 0, -1}, {0, 0, 2}}) {
            due("30: BAD", x.chance(b[0], b[1], b[2]), BAD);
        }
    }

    private static int lot(int[] seed, int m) {
        seed[0] = 1103515245 * seed[0] + 12345;
        return (int) (((seed[0] & 0xFFFFFFFFL) / 65536) % m);
    }

    private static String tales(int first, int n) {
        int[] seed = {first};
        StringBuilder told = new StringBuilder();
        for (int i = 0; i < n; i++) {
            told.append(i == 0 ? "" : ";").append((char) ('a' + lot(seed, 24))).append(lot(seed, 8));
            told.append(lot(seed, 10)).append("sdk".charAt(lot(seed, 3)));
        }
        return told.toString();
    }

    /** A life is what stands if its tales are told. */
    private static void lives() {
        int[] seeds = {0, 1, -1, 7, 99, 123456789, Integer.MIN_VALUE, Integer.MAX_VALUE};
        for (int seed : seeds) {
            for (int n = 0; n <= 12; n++) {
                String charges = "h0;n1;d5;t2;j7;b6;q3;v4";
                SwornElsewhere x = Check.of("a01s;d44s", charges);
                SwornElsewhere y = Check.of(tales(seed, n), charges);
                for (SwornElsewhere z : new SwornElsewhere[] {x, y}) {
                    z.need(1);
                    z.event(0, 12, 3);
                    z.event(2, 3, 5);
                }
                due("31: charges by " + seed + " of " + n, x.lives(seed, n, 0), y.sum(0));
                due("31: tales by " + seed + " of " + n, x.lives(seed, n, 1), y.sum(1));
                due("31: nothing is changed", x.count(0), 2);
            }
        }
        SwornElsewhere x = new SwornElsewhere();
        for (int[] b : new int[][] {{-1, 0}, {13, 0}, {0, -1}, {0, 2}}) {
            due("31: BAD", x.lives(1, b[0], b[1]), -2);
        }
    }
}
