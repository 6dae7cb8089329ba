/** Promises 32 to 39: sheet, lose, put, get, copy, write, count, digest. */
public final class SheetTest {
    private static final Check CHECK = new Check();
    private static final int FAR = Integer.MAX_VALUE;

    public static void main(String[] args) {
        sheet();
        lose();
        put();
        get();
        copy();
        copyOverlaps();
        copyRefused();
        write();
        count();
        digest();
        CHECK.end();
    }

    private static void due(String what, long got, long want) {
        CHECK.due(what, got, want);
    }

    /** A refusal that is a finding, and that count() 8 tells it. */
    private static void found(String what, SwornElsewhere x, long got, int number) {
        due(what, got, -10 - number);
        due(what + ", told", x.count(8), number);
    }

    private static void sheet() {
        SwornElsewhere x = new SwornElsewhere();
        for (int[] b : new int[][] {{-1, 0, 1}, {4, 0, 1}, {0, -1, 1}, {0, 3, 1}, {0, 0, 61}, {4, 0, -1}, {0, 3, -1}}) {
            due("32: BAD", x.sheet(b[0], b[1], b[2]), -2);
        }
        due("32: BAD is no finding", x.count(8), 0);
        found("32: SIZE", x, x.sheet(0, 0, -1), 5);
        found("32: SIZE", x, x.sheet(0, 0, Integer.MIN_VALUE), 5);
        found("32: still lost", x, x.lose(0), 1);
        due("32: none", x.sheet(0, 0, 0), 0);
        due("32: most", x.sheet(3, 2, 60), 60);
        for (int i = 0; i < 60; i++) {
            due("32: 0 at first", x.get(3, 2, i), 0);
            x.put(3, 2, i, i + 1);
        }
        due("32: BAD keeps it", x.sheet(3, 2, 61), -2);
        found("32: SIZE keeps it", x, x.sheet(3, 2, -5), 5);
        due("32: as it was", x.get(3, 2, 59), 60);
        due("32: anew", x.sheet(3, 1, 5), 5);
        for (int i = 0; i < 5; i++) {
            due("32: 0 again", x.get(3, 1, i), 0);
        }
    }

    private static void lose() {
        SwornElsewhere x = new SwornElsewhere();
        due("33: BAD", x.lose(-1), -2);
        due("33: BAD", x.lose(4), -2);
        x.sheet(1, 0, 7);
        x.sheet(2, 0, 0);
        due("33: seven", x.lose(1), 7);
        found("33: NULL", x, x.lose(1), 1);
        due("33: none", x.lose(2), 0);
        found("33: NULL", x, x.lose(2), 1);
    }

    private static void put() {
        int[] given = {0, 127, 128, 255, 256, -129, 32767, 32768, 65536, 65535, FAR, Integer.MIN_VALUE};
        SwornElsewhere x = new SwornElsewhere();
        for (int form = 0; form < 3; form++) {
            x.sheet(form, form, 4);
            for (int v : given) {
                due("34: put", x.put(form, form, 3, v), 1);
                int kept = form == 0 ? (byte) v : form == 1 ? (short) v : v;
                due("34: kept of " + v + " in form " + form, x.get(form, form, 3), kept);
            }
            due("34: the others are as they were", x.get(form, form, 2), 0);
        }
        due("34: no finding yet", x.count(8), 0);
        for (int[] b : new int[][] {{-1, 0}, {4, 0}, {0, -1}, {0, 3}, {3, 3}}) {
            due("34: BAD", x.put(b[0], b[1], 0, 1), -2);
        }
        found("34: NULL", x, x.put(3, 0, 0, 1), 1);
        found("34: CAST", x, x.put(0, 1, 0, 1), 3);
        found("34: CAST is ahead of INDEX", x, x.put(0, 2, 4, 1), 3);
        found("34: INDEX", x, x.put(0, 0, 4, 1), 2);
        found("34: INDEX", x, x.put(0, 0, -1, 1), 2);
        x.sheet(3, 0, 0);
        found("34: INDEX of none", x, x.put(3, 0, 0, 1), 2);
    }

    private static void get() {
        SwornElsewhere x = new SwornElsewhere();
        for (int[] b : new int[][] {{-1, 0}, {4, 0}, {0, -1}, {0, 3}}) {
            due("35: BAD", x.get(b[0], b[1], 0), Check.LEAST);
        }
        due("35: BAD is no finding", x.count(8), 0);
        due("35: NULL", x.get(1, 0, 0), Check.LEAST);
        due("35: NULL", x.count(8), 1);
        x.sheet(1, 1, 3);
        due("35: INDEX", x.get(1, 1, 3), Check.LEAST);
        due("35: INDEX", x.count(8), 2);
        due("35: CAST", x.get(1, 2, 3), Check.LEAST);
        due("35: CAST", x.count(8), 3);
        due("35: INDEX", x.get(1, 1, -1), Check.LEAST);
        due("35: INDEX", x.count(8), 2);
        x.put(1, 1, 2, -7);
        due("35: it", x.get(1, 1, 2), -7);
        due("35: the latest finding stays", x.count(8), 2);
    }

    private static void fill(SwornElsewhere x, int s, int form, int n) {
        x.sheet(s, form, n);
        for (int i = 0; i < n; i++) {
            x.put(s, form, i, 10 * (s + 1) + i);
        }
    }

    private static void holds(String what, SwornElsewhere x, int s, int form, int... items) {
        for (int i = 0; i < items.length; i++) {
            due(what + ", item " + i, x.get(s, form, i), items[i]);
        }
    }

    private static void copy() {
        SwornElsewhere x = new SwornElsewhere();
        fill(x, 0, 1, 5);
        fill(x, 1, 1, 4);
        due("36: copy", x.copy(0, 2, 1, 1, 3), 1);
        holds("36: to", x, 1, 1, 20, 12, 13, 14);
        holds("36: from", x, 0, 1, 10, 11, 12, 13, 14);
        due("36: nothing", x.copy(0, 5, 1, 4, 0), 1);
        holds("36: to", x, 1, 1, 20, 12, 13, 14);
        due("36: all", x.copy(1, 0, 0, 1, 4), 1);
        holds("36: back", x, 0, 1, 10, 20, 12, 13, 14);
    }

    private static void copyOverlaps() {
        SwornElsewhere x = new SwornElsewhere();
        fill(x, 0, 2, 5);
        due("36: on itself", x.copy(0, 0, 0, 1, 4), 1);
        holds("36: as they were", x, 0, 2, 10, 10, 11, 12, 13);
        due("36: on itself", x.copy(0, 1, 0, 0, 4), 1);
        holds("36: as they were", x, 0, 2, 10, 11, 12, 13, 13);
    }

    private static void copyRefused() {
        SwornElsewhere x = new SwornElsewhere();
        fill(x, 0, 1, 5);
        fill(x, 1, 2, 5);
        fill(x, 2, 1, 3);
        due("36: BAD", x.copy(-1, 0, 0, 0, 1), -2);
        due("36: BAD", x.copy(0, 0, 4, 0, 1), -2);
        due("36: BAD is ahead of NULL", x.copy(3, 0, 4, 0, 1), -2);
        due("36: BAD is no finding", x.count(8), 0);
        found("36: NULL s", x, x.copy(3, 0, 0, 0, 1), 1);
        found("36: NULL t", x, x.copy(0, 0, 3, 0, 1), 1);
        found("36: STORE", x, x.copy(0, 0, 1, 0, 1), 4);
        found("36: STORE is ahead of INDEX", x, x.copy(0, 9, 1, 0, 1), 4);
        int[][] far = {{-1, 0, 1}, {0, -1, 1}, {0, 0, -1}, {5, 0, 1}, {0, 3, 1}, {0, 0, 4}, {3, 0, 3}, {0, 1, 3},
            {6, 0, 0}, {0, 4, 0}, {FAR, 0, 1}, {0, FAR, 1}, {0, 0, FAR}, {FAR, FAR, FAR}, {1, 1, FAR},
            {0, 0, Integer.MIN_VALUE}, {Integer.MIN_VALUE, 0, 1}};
        for (int[] f : far) {
            x.lose(3);
            found("36: INDEX", x, x.copy(0, f[0], 2, f[1], f[2]), 2);
        }
        holds("36: nothing came", x, 2, 1, 30, 31, 32);
    }

    private static void write() {
        SwornElsewhere x = Check.of("c41s;c42d", "");
        due("37: BAD", x.write(-1, 0), -2);
        due("37: BAD", x.write(8, 0), -2);
        due("37: BAD", x.write(0, -1), -2);
        due("37: BAD", x.write(0, 4), -2);
        due("37: BAD is ahead of NULL", x.write(8, 0), -2);
        found("37: NULL", x, x.write(0, 0), 1);
        for (int form = 0; form < 3; form++) {
            fill(x, 0, form, 4);
            due("37: four", x.write(4, 0), 4);
            holds("37: standing", x, 0, form, 0, 0, 5, 6);
            fill(x, 1, form, 26);
            due("37: twenty-four", x.write(4, 1), 24);
            for (int night = 0; night < 24; night++) {
                due("37: as man tells", x.get(1, form, night), x.man(night, 4, 0));
            }
            due("37: behind it as it was", x.get(1, form, 24), 44);
            due("37: nobody", x.write(3, 1), 24);
            holds("37: nobody", x, 1, form, 0, 0, 0);
            x.sheet(0, form, 0);
            due("37: none", x.write(4, 0), 0);
        }
    }

    private static void count() {
        SwornElsewhere x = Check.of("a01s;b12s", "a5;b5;c5");
        x.need(3);
        x.event(2, 0, 0);
        x.seen(0, 0);
        x.seen(0, 0);
        x.lose(0);
        int[] due = {2, 3, 9, 8, 3, 1, 2, 2, 1};
        for (int what = 0; what < due.length; what++) {
            due("38: count(" + what + ")", x.count(what), due[what]);
        }
        due("38: BAD", x.count(-1), -2);
        due("38: BAD", x.count(9), -2);
        x.type(0, '!');
        x.type(1, '!');
        due("38: no tales by a fault", x.count(0), 0);
        due("38: no charges by a fault", x.count(1), 0);
        due("38: but bytes", x.count(2), 10);
        due("38: but bytes", x.count(3), 9);
    }

    private static void digest() {
        String[][] told = {{"", ""}, {"a01s;b12s;a31k;c32d;c33d", "a5;b5;c5;c0"}, {"a0", "b1"},
            {"a01s;".repeat(11) + "x79k", "a5;b5;c5;c0;x0;x1;x2;x7"}};
        for (String[] t : told) {
            due("39: digest", digested(t, false).digest(), EdgeDigest.of(digested(t, false)));
            due("39: digest", digested(t, true).digest(), EdgeDigest.of(digested(t, true)));
        }
        digestTellsSpareAndLives();
    }

    private static SwornElsewhere digested(String[] told, boolean withEvents) {
        SwornElsewhere x = Check.of(told[0], told[1]);
        x.need(3);
        if (withEvents) {
            x.event(1, 0, 0);
            x.event(2, 3, 0);
            x.event(0, 2, 2);
            x.seen(0, 0);
        }
        return x;
    }

    private static void digestTellsSpareAndLives() {
        SwornElsewhere x = Check.of("a01s", "a5");
        x.need(3);
        x.event(2, 0, 7);
        x.event(1, 0, 0);
        due("39: one to spare", x.spare(0), 1);
        due("39: digest", x.digest(), EdgeDigest.of(x));
        for (int night = 0; night < 24; night++) {
            for (int town = 0; town < 8; town++) {
                SwornElsewhere y = Check.of("", (char) ('a' + night) + "" + town);
                y.need(1);
                due("39: digest", y.digest(), EdgeDigest.of(y));
            }
        }
    }
}
