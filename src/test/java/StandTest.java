/** Promises 12 to 20: clash, stands, man, belief, cleared, sum, liar, best, where. */
public final class StandTest {
    private static final Check CHECK = new Check();

    public static void main(String[] args) {
        clash();
        turned();
        fairs();
        clashesByNumber();
        weights();
        standing();
        letters();
        ranks();
        belief();
        cleared();
        sum();
        liar();
        best();
        where();
        CHECK.end();
    }

    private static void due(String what, long got, long want) {
        CHECK.due(what, got, want);
    }

    private static void stands(SwornElsewhere x, int tale, int counts, int weighs, int against) {
        due("13: counts, " + tale, x.stands(tale, 0), counts);
        due("13: weighs, " + tale, x.stands(tale, 1), weighs);
        due("13: against, " + tale, x.stands(tale, 2), against);
    }

    private static SwornElsewhere with(SwornElsewhere x, int kind, int night, int number) {
        x.event(kind, night, number);
        return x;
    }

    private static void clash() {
        SwornElsewhere x = Check.of("a00s;b20s;b10s;a01s;b31s;b20d;a70k;h00k", "");
        due("12: two towns in a night", x.clash(0, 1), 1);
        due("12: the other way", x.clash(1, 0), 1);
        due("12: one town in a night", x.clash(0, 2), 0);
        due("12: one town in no night", x.clash(1, 2), 1);
        due("12: two witnesses", x.clash(0, 4), 0);
        due("12: another witness", x.clash(3, 4), 1);
        due("12: the same night and town", x.clash(1, 5), 0);
        due("12: seven in seven", x.clash(6, 7), 0);
        due("12: whatever events", x.event(0, 0, 0) + x.clash(0, 1), 2);
        int[][] bad = {{0, 0}, {7, 7}, {-1, 0}, {0, -1}, {8, 0}, {0, 8}};
        for (int[] b : bad) {
            due("12: BAD", x.clash(b[0], b[1]), -2);
        }
        for (int[] b : new int[][] {{-1, 0}, {8, 0}, {0, -1}, {0, 3}}) {
            due("13: BAD", x.stands(b[0], b[1]), -2);
        }
    }

    private static void turned() {
        SwornElsewhere x = Check.of("c00s;d00s;e00s;d01s", "");
        x.event(0, 3, 0);
        stands(x, 0, 1, 3, -1);
        stands(x, 1, 0, 0, -1);
        stands(x, 2, 0, 0, -1);
        stands(x, 3, 1, 3, -1);
    }

    private static void fairs() {
        SwornElsewhere x = Check.of("c10s;d10s;e10s;d20s;d11s", "");
        x.event(1, 3, 1);
        x.event(1, 4, 8);
        x.event(1, 4, 9);
        stands(x, 0, 1, 3, -1);
        stands(x, 1, 0, 0, -1);
        stands(x, 2, 1, 3, -1);
        stands(x, 3, 1, 3, -1);
        stands(x, 4, 0, 0, -1);
    }

    private static void clashesByNumber() {
        SwornElsewhere x = Check.of("a00s;a20s;a30s;a41s;a20s", "");
        stands(x, 0, 1, 3, -1);
        stands(x, 1, 0, 0, 0);
        stands(x, 2, 0, 0, 0);
        stands(x, 3, 1, 3, -1);
        stands(x, 4, 0, 0, 0);
        // Without the first, the next stands and the two behind clash with it or not.
        x.event(1, 0, 0);
        stands(x, 0, 0, 0, -1);
        stands(x, 1, 1, 3, -1);
        stands(x, 2, 0, 0, 1);
        stands(x, 4, 1, 3, -1);
        // One that does not count by a fair clashes all the same.
        x.event(1, 0, 3);
        stands(x, 2, 0, 0, 1);
        // The least of several ahead.
        SwornElsewhere y = Check.of("a00s;b00s;b50s", "");
        stands(y, 2, 0, 0, 0);
        y.event(1, 0, 0);
        stands(y, 2, 0, 0, 1);
    }

    private static void weights() {
        SwornElsewhere x = Check.of("a00d;b00d;b01k;c02d;c03d;c03d;d04d;d05d;d06s;d07k;e08k;e18k", "");
        int[] due = {1, 2, 2, 2, 2, 2, 3, 3, 3, 2, 0, 0};
        for (int i = 0; i < due.length; i++) {
            due("13: weighs, " + i, x.stands(i, 1), due[i]);
        }
        due("13: no witness stands twice", x.stands(3, 1), 2);
        // A word that does not count is nobody's.
        x.event(0, 2, 3);
        due("13: alone again", x.stands(3, 1), 1);
        due("13: turned", x.stands(4, 1), 0);
        // Kin: any tale of the witness, behind or ahead.
        SwornElsewhere y = Check.of("a09k;h79k;x09s", "");
        due("13: kin", y.stands(0, 1), 2);
        y.event(0, 23, 9);
        due("13: kin of one that turns", y.stands(0, 1), 0);
        due("13: it counts", y.stands(0, 0), 1);
        due("13: kin of one that turns", y.stands(1, 1), 0);
    }

    private static void standing() {
        SwornElsewhere x = Check.of("c41s;c42d;f43d", "");
        int[][] due = {{0, 0, 0}, {1, 0, 0}, {2, 5, 1}, {3, 6, 2}, {4, 7, 2}, {5, 9, 2}, {10, 14, 2}, {11, 15, 3},
            {23, 27, 3}};
        for (int[] d : due) {
            due("14: standing behind " + d[0], x.man(d[0], 4, 0), d[1]);
            due("14: rank behind " + d[0], x.man(d[0], 4, 1), d[2]);
        }
        due("14: nobody there", x.man(23, 3, 0), 0);
        due("14: nobody there", x.man(23, 3, 1), 0);
        for (int[] b : new int[][] {{-1, 0, 0}, {24, 0, 0}, {0, -1, 0}, {0, 8, 0}, {0, 0, -1}, {0, 0, 2}}) {
            due("14: BAD", x.man(b[0], b[1], b[2]), -2);
        }
        // Told out of order: the least night, not the first told; and only tales that count.
        SwornElsewhere y = Check.of("f41s;d42s;b43s", "");
        y.event(0, 0, 3);
        due("14: not yet", y.man(2, 4, 1), 0);
        due("14: from the least on", y.man(3, 4, 0), 3);
        due("14: with the later", y.man(5, 4, 0), 8);
    }

    private static void letters() {
        SwornElsewhere x = Check.of("c41s", "");
        x.event(2, 1, 4);
        due("14: a letter too early", x.man(23, 4, 0), 24);
        x.event(2, 2, 4);
        due("14: a letter in his first night", x.man(2, 4, 0), 6);
        x.event(2, 9, 4);
        due("14: a letter to come", x.man(8, 4, 0), 12);
        due("14: a letter in that night", x.man(9, 4, 0), 16);
        x.event(2, 9, 5);
        x.event(2, 9, 8);
        x.event(2, 9, 9);
        due("14: letters for others", x.man(9, 4, 0), 16);
        due("14: a letter makes no man", x.man(23, 5, 1), 0);
        x.event(2, 20, 4);
        x.event(2, 20, 4);
        due("14: 36", x.man(23, 4, 0), 36);
        x.back();
        x.back();
        x.back();
        x.back();
        for (int i = 0; i < 4; i++) {
            x.event(2, 20, 4);
        }
        due("14: 39", x.man(20, 4, 0), 39);
        due("14: 40", x.man(21, 4, 0), 40);
        due("14: 40 at most", x.man(22, 4, 0), 40);
    }

    private static void ranks() {
        // Kin whose witness lies elsewhere: a man without any standing in his first night.
        SwornElsewhere x = Check.of("e10k;e70s", "e7;e0");
        due("14: no standing", x.man(4, 1, 0), 0);
        due("14: he walks about", x.man(4, 1, 1), 1);
        due("14: before", x.man(3, 1, 1), 0);
        due("14: five", x.man(9, 1, 1), 1);
        due("14: six", x.man(10, 1, 1), 2);
        due("14: fourteen", x.man(18, 1, 1), 2);
        due("14: fifteen", x.man(19, 1, 1), 3);
        due("17: he is one", x.sum(2), 1);
        due("17: a churchwarden", x.sum(3), 1);
        SwornElsewhere y = Check.of("x10k;x70s", "");
        due("17: a man of no standing", y.sum(2), 1);
        due("17: no churchwarden", y.sum(3), 0);
        due("19: of no standing, but the best", y.best(), 1);
    }

    private static void belief() {
        SwornElsewhere x = Check.of("a31s;d32s;d33d;d54k", "d0;d3;d5;a3;a0;e0");
        // Behind d there are in town 3: 3 nights, 3 + 3 + 2 by weight, so 11; in town 5: 2.
        due("15: the greater of two", x.belief(0), 5 * 2);
        due("15: less his own town", x.belief(1), 2 * 1 - 5);
        due("15: less his own town", x.belief(2), 5 * 2 - 2);
        due("15: below 0", x.belief(3), -3);
        due("15: one", x.belief(4), 3);
        due("15: no tale of that night", x.belief(5), 0);
        due("15: BAD", x.belief(-1), Check.LEAST);
        due("15: BAD", x.belief(6), Check.LEAST);
        x.event(2, 0, 3);
        x.event(2, 0, 3);
        due("15: a churchwarden's word", x.belief(0), 5 * 3);
    }

    private static void cleared() {
        SwornElsewhere x = Check.of("a31s;d32s;d33d;d54k;e21s;e65s", "d0;d3;d5;e0;e2;f0;f6");
        x.need(8);
        int[][] due = {{1, 3}, {0, 5}, {1, 3}, {0, 2}, {0, 6}, {0, 1}, {0, 0}};
        for (int i = 0; i < due.length; i++) {
            due("16: cleared of " + i, x.cleared(i, 0), due[i][0]);
            due("16: by town, " + i, x.cleared(i, 1), due[i][1]);
        }
        x.need(10);
        due("16: by need just so", x.cleared(0, 0), 1);
        x.need(11);
        due("16: not by one less", x.cleared(0, 0), 0);
        due("15: a doubtful word", Check.of("a31d", "a0").belief(0), 1);
        due("16: a doubtful word", Check.of("a31d", "a0").cleared(0, 1), 3);
        due("16: charge in town 0", Check.of("", "a0").cleared(0, 1), 1);
        for (int[] b : new int[][] {{-1, 0}, {7, 0}, {0, -1}, {0, 2}}) {
            due("16: BAD", x.cleared(b[0], b[1]), -2);
        }
    }

    private static void sum() {
        SwornElsewhere x = Check.of("a31s;d32s;d33d;v54k;a71s;x16s", "d0;d3;a0");
        x.need(3);
        due("17: charges", x.sum(0), 2);
        due("17: tales", x.sum(1), 5);
        due("17: men", x.sum(2), 3);
        due("17: churchwardens", x.sum(3), 1);
        due("17: BAD", x.sum(-1), -2);
        due("17: BAD", x.sum(4), -2);
        due("38: as sum tells", x.count(6), 2);
    }

    private static void liar() {
        due("18: no tales", new SwornElsewhere().liar(), -1);
        due("18: all count", Check.of("a31s;d32s", "").liar(), -1);
        due("18: one lie", Check.of("a00s;a20s;b31s", "").liar(), 0);
        due("18: the first told", with(Check.of("a04s", ""), 0, 0, 4).liar(), 4);
        SwornElsewhere x = Check.of("a08s;a28s;a03s;a23s;a49s;a69s;a79s", "");
        due("18: most", x.liar(), 9);
        x.event(1, 0, 7);
        due("18: still he", x.liar(), 9);
        x.event(0, 0, 3);
        due("18: of like ones the least", x.liar(), 3);
    }

    private static void best() {
        due("19: none", new SwornElsewhere().best(), -1);
        due("19: town 0", Check.of("b00s", "").best(), 0);
        due("17: town 0", Check.of("b00s", "").sum(2), 1);
        due("17: fourteen is no churchwarden", Check.of("m00s", "").sum(3), 0);
        due("17: fifteen is", Check.of("l00s", "").sum(3), 1);
        SwornElsewhere x = Check.of("c61s;c22s;b73d", "");
        due("19: of like ones the least", x.best(), 2);
        // 39 and 40: behind a later night they would be alike.
        SwornElsewhere y = Check.of("a10s;b13d;a21s;b24k", "");
        for (int i = 0; i < 8; i++) {
            y.event(2, 5, 1 + i % 2);
        }
        due("19: by one", y.best(), 2);
        x.event(2, 4, 7);
        due("19: by a letter", x.best(), 7);
        x.event(0, 0, 1);
        x.event(0, 0, 2);
        x.event(0, 0, 3);
        due("19: none counts", x.best(), -1);
    }

    private static void where() {
        SwornElsewhere x = new SwornElsewhere();
        for (int night = 0; night < 24; night++) {
            due("20: anywhere in " + night, x.where(night), 255);
        }
        due("20: BAD", x.where(-1), -2);
        due("20: BAD", x.where(24), -2);
        Check.tell(x, 0, "e30s");
        int[] due = {127 | 128, 127, 62, 28, 8, 28, 62, 127, 255};
        for (int night = 0; night < due.length; night++) {
            due("20: about one tale, " + night, x.where(night), due[night]);
        }
        Check.tell(x, 0, "a00s;x70s");
        due("20: in the first night", x.where(0), 1);
        due("20: in the second", x.where(1), 3);
        due("20: in the one before the last", x.where(22), 64 + 128);
        due("20: in the last night", x.where(23), 128);
        Check.tell(x, 0, "b00s;w70s");
        due("20: before the second", x.where(0), 3);
        due("20: in the second", x.where(1), 1);
        due("20: in the one before the last", x.where(22), 128);
        due("20: behind it", x.where(23), 64 + 128);
        Check.tell(x, 0, "e30s;g51s;f72d;f73k");
        due("20: in between", x.where(5), 16);
        due("20: behind", x.where(7), 16 + 32 + 64);
        Check.tell(x, 0, "e30s;g61s");
        for (int night = 0; night < 24; night++) {
            due("20: nowhere in " + night, x.where(night), 0);
        }
        x.event(0, 6, 1);
        due("20: only of what counts", x.where(6), 62);
        Check.tell(x, 0, "e30s;e40s");
        due("20: the second does not count", x.where(4), 8);
        Check.tell(x, 0, "e30s;e41s");
        due("20: two at once", x.where(4), 0);
    }
}
