/** Promises 21 to 24: move, drop, clean, spare. */
public final class PlanTest {
    private static final Check CHECK = new Check();

    public static void main(String[] args) {
        move();
        drop();
        clean();
        spare();
        spareOfTwo();
        CHECK.end();
    }

    private static void due(String what, long got, long want) {
        CHECK.due(what, got, want);
    }

    private static void move() {
        SwornElsewhere x = Check.of("a41s;a32s", "a5;a0");
        x.need(12);
        // Six by weight make a shop, so together they clear; apart they do not.
        due("21: to the other", x.move(0, 0), 3);
        due("21: of both", x.move(0, 1), 2);
        due("21: to the one", x.move(1, 0), 4);
        due("21: of both", x.move(1, 1), 2);
        due("21: nothing is moved", x.tale(0, 1), 4);
        due("21: nothing is moved", x.sum(0), 0);
        x.need(3);
        due("21: of like ones the least", x.move(0, 0), 1);
        due("21: of both", x.move(0, 1), 2);
        x.need(40);
        due("21: none helps", x.move(0, 0), 0);
        due("21: of none", x.move(0, 1), 0);
        Check.tell(x, 0, "a41s");
        Check.tell(x, 1, "a0;a1;a2;a3;a5;a6;a7");
        x.need(3);
        due("21: its own town may be the best", x.move(0, 0), 4);
        due("21: of all", x.move(0, 1), 7);
        for (int[] b : new int[][] {{-1, 0}, {1, 0}, {0, -1}, {0, 2}}) {
            due("21: BAD", x.move(b[0], b[1]), -2);
        }
    }

    private static void drop() {
        SwornElsewhere x = new SwornElsewhere();
        due("22: no tales", x.drop(0), -1);
        due("22: no tales", x.drop(1), -1);
        due("22: BAD", x.drop(-1), -2);
        due("22: BAD", x.drop(2), -2);
        Check.tell(x, 0, "a01s;a52s;b33s");
        Check.tell(x, 1, "a5;b1");
        x.need(3);
        due("22: which", x.drop(0), 1);
        due("22: how many", x.drop(1), 2);
        due("22: nothing is dropped", x.count(0), 3);
        due("22: nothing is dropped", x.sum(0), 1);
        x.need(40);
        due("22: of like ones the least", x.drop(0), 0);
        due("22: of none", x.drop(1), 0);
        // Without the one ahead that it clashes with, the one behind counts.
        Check.tell(x, 0, "a01s;a31s;a32s");
        Check.tell(x, 1, "a0");
        x.need(4);
        due("22: a liar's first word", x.drop(0), 0);
        due("22: how many", x.drop(1), 1);
    }

    private static void clean() {
        SwornElsewhere x = new SwornElsewhere();
        due("23: no tales", x.clean(0), 0);
        due("23: no tales", x.clean(1), 0);
        due("23: BAD", x.clean(-1), -2);
        due("23: BAD", x.clean(2), -2);
        Check.tell(x, 0, "c34d");
        due("23: one", x.clean(0), 1);
        due("23: one", x.clean(1), 1);
        Check.tell(x, 0, "a00s;a30s;a40s;d10s");
        due("23: how many", x.clean(0), 2);
        // 0 with 3 (9), 1 with 3 (10), 2 with 3 (12).
        due("23: of like ones the least number", x.clean(1), 9);
        x.event(1, 0, 0);
        due("23: whatever events", x.clean(1), 9);
        Check.tell(x, 0, "a70s;a00s;d10s;e20k;a01d;a71d");
        due("23: the first clashes with all of his", x.clean(0), 4);
        due("23: which", x.clean(1), 2 + 4 + 8 + 16);
        Check.tell(x, 0, "a00s;".repeat(11) + "x79k");
        due("23: all twelve", x.clean(0), 12);
        due("23: all twelve", x.clean(1), 4095);
        Check.tell(x, 0, "a00s;a20s;a40s;a60s;a01s;a21s;a41s;a61s;a02s;a22s;a42s;a62s");
        due("23: one of each", x.clean(0), 3);
        due("23: one of each", x.clean(1), 1 + 16 + 256);
    }

    private static void spares(SwornElsewhere x, int many, int first, int second) {
        due("24: how many", x.spare(-1), many);
        due("24: the first", x.spare(0), first);
        due("24: the second", x.spare(1), second);
    }

    private static void spare() {
        SwornElsewhere x = new SwornElsewhere();
        due("24: BAD", x.spare(-2), -2);
        due("24: BAD", x.spare(2), -2);
        spares(x, 0, -1, -1);
        Check.tell(x, 0, "a01s");
        Check.tell(x, 1, "a5");
        spares(x, -1, -1, -1);
        x.need(3);
        spares(x, 0, -1, -1);
        x.event(2, 0, 0);
        x.event(1, 0, 0);
        spares(x, 1, 1, -1);
        x.event(0, 0, 1);
        spares(x, 2, 1, 2);
        x.event(0, 0, 1);
        spares(x, -1, -1, -1);
        due("24: all are still", x.count(5), 4);
    }

    private static void spareOfTwo() {
        // Either man would do; the least row is that of the first two.
        SwornElsewhere x = Check.of("a01s;a32s", "a5");
        x.need(3);
        x.event(0, 0, 1);
        x.event(0, 0, 2);
        spares(x, 1, 0, -1);
        x.event(1, 0, 3);
        x.event(1, 0, 0);
        spares(x, 2, 0, 3);
        x.event(1, 0, 0);
        spares(x, 2, 1, 2);
        // An event that had better not be may be a letter.
        SwornElsewhere y = Check.of("a01s;a32s", "a5");
        y.need(4);
        spares(y, -1, -1, -1);
        y.event(2, 0, 3);
        spares(y, 0, -1, -1);
    }
}
