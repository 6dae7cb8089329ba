import java.util.ArrayList;
import java.util.List;

/** The digest made of the answers of the other calls, in the order that promise 39 tells. */
final class EdgeDigest {
    private EdgeDigest() {
    }

    /** Takes some 350 of the object's 512 calls. */
    static long of(SwornElsewhere x) {
        List<Long> each = new ArrayList<>();
        add(each, x, "count", 0, 7);
        add(each, x, "fault", 0, 1);
        for (int town = 0; town < 8; town++) {
            for (String man : new String[] {"man 3 T 0", "man 12 T 0", "man 23 T 0", "man 23 T 1"}) {
                each.add(Words.call(x, man.replace("T", "" + town)));
            }
        }
        add(each, x, "where", 0, 23);
        long tales = each.get(0);
        long charges = each.get(1);
        for (int i = 0; i < tales; i++) {
            add(each, x, "tale " + i, 0, 3);
            add(each, x, "stands " + i, 0, 2);
            add(each, x, "move " + i, 0, 1);
            add(each, x, "was " + i, 0, 1);
            add(each, x, "ask", i, i);
        }
        for (int i = 0; i < charges; i++) {
            add(each, x, "charge " + i, 0, 1);
            add(each, x, "belief", i, i);
            add(each, x, "cleared " + i, 0, 1);
            add(each, x, "chance 5 " + i, 0, 1);
        }
        ofAll(each, x);
        long h = 17;
        for (long v : each) {
            h = 31 * h + v;
        }
        return h;
    }

    private static void ofAll(List<Long> each, SwornElsewhere x) {
        add(each, x, "sum", 0, 3);
        each.add(Words.call(x, "liar"));
        each.add(Words.call(x, "best"));
        add(each, x, "drop", 0, 1);
        add(each, x, "clean", 0, 1);
        add(each, x, "spare", -1, 0);
        each.add(Words.call(x, "never"));
        add(each, x, "lives 7 9", 0, 1);
    }

    private static void add(List<Long> each, SwornElsewhere x, String call, int from, int to) {
        for (int v = from; v <= to; v++) {
            each.add(Words.call(x, call + " " + v));
        }
    }
}
