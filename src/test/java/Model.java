import java.math.BigInteger;
import java.util.ArrayList;
import java.util.HashSet;
import java.util.List;
import java.util.Set;
import java.util.function.Predicate;
import java.util.regex.Pattern;

/**
 * The document over again, in the slowest and plainest words and by other ways than the class takes, to
 * compare answers with. It knows only arguments that are not refused.
 */
final class Model {
    record Tale(int night, int town, int witness, int sort) { }

    record Charge(int night, int town) { }

    record Event(int kind, int night, int number) { }

    record Seen(int charge, int is) { }

    String taleText = "";
    String chargeText = "";
    int need = 6;
    List<Event> events = new ArrayList<>();
    List<Seen> seen = new ArrayList<>();

    static int fault(String text, boolean ofTales) {
        String part = ofTales ? "[a-x][0-7][0-9][sdk]" : "[a-x][0-7]";
        Pattern whole = Pattern.compile("(" + part + "(;" + part + ")*)?", Pattern.DOTALL);
        if (whole.matcher(text).matches()) {
            return -1;
        }
        for (int n = 1; n <= text.length(); n++) {
            var matcher = whole.matcher(text.substring(0, n));
            if (!matcher.matches() && !matcher.hitEnd()) {
                return n - 1;
            }
        }
        return text.length();
    }

    List<Tale> tales() {
        List<Tale> all = new ArrayList<>();
        if (!taleText.isEmpty() && fault(taleText, true) == -1) {
            for (String t : taleText.split(";")) {
                all.add(new Tale(t.charAt(0) - 'a', t.charAt(1) - '0', t.charAt(2) - '0', "sdk".indexOf(t.charAt(3))));
            }
        }
        return all;
    }

    List<Charge> charges() {
        List<Charge> all = new ArrayList<>();
        if (!chargeText.isEmpty() && fault(chargeText, false) == -1) {
            for (String c : chargeText.split(";")) {
                all.add(new Charge(c.charAt(0) - 'a', c.charAt(1) - '0'));
            }
        }
        return all;
    }

    World world() {
        return new World(tales(), events);
    }

    /** What stands by some tales and some events. */
    static final class World {
        final List<Tale> tales;
        final List<Event> events;

        World(List<Tale> tales, List<Event> events) {
            this.tales = tales;
            this.events = events;
        }

        static boolean clash(Tale a, Tale b) {
            return a.witness == b.witness && Math.abs(a.town - b.town) > Math.abs(a.night - b.night);
        }

        boolean has(Predicate<Event> which) {
            return events.stream().anyMatch(which);
        }

        boolean counts(int i) {
            Tale t = tales.get(i);
            if (has(e -> e.kind == 0 && e.number == t.witness && e.night <= t.night)) {
                return false;
            }
            return !has(e -> e.kind == 1 && e.number == t.town && e.night == t.night) && against(i) == -1;
        }

        int against(int i) {
            for (int j = 0; j < i; j++) {
                if (clash(tales.get(i), tales.get(j)) && counts(j)) {
                    return j;
                }
            }
            return -1;
        }

        int weighs(int i) {
            Tale t = tales.get(i);
            if (!counts(i)) {
                return 0;
            }
            if (t.sort == 0) {
                return 3;
            }
            if (t.sort == 2) {
                return lies(t.witness) > 0 ? 0 : 2;
            }
            Set<Integer> others = new HashSet<>();
            for (int j = 0; j < tales.size(); j++) {
                Tale o = tales.get(j);
                if (o.night == t.night && o.town == t.town && o.witness != t.witness && counts(j)) {
                    others.add(o.witness);
                }
            }
            return others.isEmpty() ? 1 : others.size() == 1 ? 2 : 3;
        }

        int lies(int witness) {
            int lies = 0;
            for (int i = 0; i < tales.size(); i++) {
                lies += tales.get(i).witness == witness && !counts(i) ? 1 : 0;
            }
            return lies;
        }

        int birth(int town) {
            for (int night = 0; night < 24; night++) {
                for (int i = 0; i < tales.size(); i++) {
                    if (tales.get(i).town == town && tales.get(i).night == night && counts(i)) {
                        return night;
                    }
                }
            }
            return 24;
        }

        int weighIn(int town, int from, int to) {
            int all = 0;
            for (int i = 0; i < tales.size(); i++) {
                Tale t = tales.get(i);
                all += t.town == town && t.night >= from && t.night <= to ? weighs(i) : 0;
            }
            return all;
        }

        int standing(int night, int town) {
            int birth = birth(town);
            if (birth > night) {
                return 0;
            }
            long letters = events.stream()
                .filter(e -> e.kind == 2 && e.number == town && e.night >= birth && e.night <= night).count();
            return (int) Math.min(40, night - birth + weighIn(town, 0, night) + 3 * letters);
        }

        int rank(int night, int town) {
            int standing = standing(night, town);
            return birth(town) > night ? 0 : standing >= 15 ? 3 : standing >= 6 ? 2 : 1;
        }

        int trusts(Charge c, int town) {
            return weighIn(town, c.night, c.night) * rank(c.night, town) - weighIn(c.town, c.night, c.night);
        }

        int town(Charge c) {
            int best = -1;
            for (int town = 0; town < 8; town++) {
                if (town != c.town && (best == -1 || trusts(c, town) > trusts(c, best))) {
                    best = town;
                }
            }
            return best;
        }

        int belief(Charge c) {
            return trusts(c, town(c));
        }

        /** Steps of one town a night join any points of which each two can be joined. */
        int where(int night) {
            List<Tale> fixed = new ArrayList<>();
            for (int i = 0; i < tales.size(); i++) {
                if (tales.get(i).sort == 0 && counts(i)) {
                    fixed.add(tales.get(i));
                }
            }
            int bits = 0;
            for (int town = 0; town < 8; town++) {
                List<Tale> points = new ArrayList<>(fixed);
                points.add(new Tale(night, town, 0, 0));
                boolean joined = points.stream().allMatch(a -> points.stream()
                    .allMatch(b -> Math.abs(a.town - b.town) <= Math.abs(a.night - b.night)));
                bits += joined ? 1 << town : 0;
            }
            return bits;
        }
    }

    boolean cleared(World w, int charge) {
        return w.belief(charges().get(charge)) >= need;
    }

    int cleared(World w) {
        int many = 0;
        for (int i = 0; i < charges().size(); i++) {
            many += cleared(w, i) ? 1 : 0;
        }
        return many;
    }

    boolean comesOut(World w) {
        return seen.stream().allMatch(s -> s.charge < charges().size() && cleared(w, s.charge) == (s.is == 1));
    }

    World with(int tale, Tale other) {
        List<Tale> all = tales();
        all.set(tale, other);
        return new World(all, events);
    }

    World moved(int tale, int town) {
        Tale t = tales().get(tale);
        return with(tale, new Tale(t.night, town, t.witness, t.sort));
    }

    World by(int tale, int witness) {
        Tale t = tales().get(tale);
        return with(tale, new Tale(t.night, t.town, witness, t.sort));
    }

    World sorted(int tale, int sort) {
        Tale t = tales().get(tale);
        return with(tale, new Tale(t.night, t.town, t.witness, sort));
    }

    World without(int... gone) {
        List<Event> left = new ArrayList<>(events);
        for (int i = gone.length - 1; i >= 0; i--) {
            left.remove(gone[i]);
        }
        return new World(tales(), left);
    }

    int[] move(int tale) {
        int[] best = {-1, -1};
        for (int town = 0; town < 8; town++) {
            int many = cleared(moved(tale, town));
            best = many > best[1] ? new int[] {town, many} : best;
        }
        return best;
    }

    int[] drop() {
        int[] best = {-1, -1};
        for (int tale = 0; tale < tales().size(); tale++) {
            List<Tale> left = tales();
            left.remove(tale);
            int many = cleared(new World(left, events));
            best = many > best[1] ? new int[] {tale, many} : best;
        }
        return best;
    }

    /** The greatest set, and of like ones the least number, of tales below n that go with those taken. */
    int clean(int n, int taken) {
        if (n == 0) {
            return taken;
        }
        List<Tale> all = tales();
        int left = clean(n - 1, taken);
        for (int i = n; i < all.size(); i++) {
            if ((taken >> i & 1) == 1 && World.clash(all.get(i), all.get(n - 1))) {
                return left;
            }
        }
        int in = clean(n - 1, taken | 1 << (n - 1));
        int more = Integer.bitCount(in) - Integer.bitCount(left);
        return more > 0 || more == 0 && in < left ? in : left;
    }

    List<Integer> spare() {
        List<int[]> rows = new ArrayList<>();
        rows.add(new int[0]);
        for (int i = 0; i < events.size(); i++) {
            rows.add(new int[] {i});
        }
        for (int i = 0; i < events.size(); i++) {
            for (int j = i + 1; j < events.size(); j++) {
                rows.add(new int[] {i, j});
            }
        }
        for (int[] row : rows) {
            if (cleared(without(row)) == charges().size()) {
                List<Integer> found = new ArrayList<>();
                for (int i : row) {
                    found.add(i);
                }
                return found;
            }
        }
        return null;
    }

    int never() {
        int bits = 0;
        for (int i = 0; i < events.size(); i++) {
            bits += comesOut(without(i)) ? 1 << i : 0;
        }
        return bits;
    }

    int was(int tale, int what) {
        int bits = 0;
        for (int v = 0; v < (what == 0 ? 10 : 3); v++) {
            bits += comesOut(what == 0 ? by(tale, v) : sorted(tale, v)) ? 1 << v : 0;
        }
        return bits;
    }

    int ask(int tale) {
        int bits = was(tale, 0);
        int best = -1;
        int least = 11;
        for (int charge = 0; charge < 8; charge++) {
            int yes = 0;
            int no = 0;
            for (int w = 0; w < 10; w++) {
                if ((bits >> w & 1) == 1) {
                    boolean clear = charge < charges().size() && cleared(by(tale, w), charge);
                    yes += clear ? 1 : 0;
                    no += clear ? 0 : 1;
                }
            }
            int greater = yes > no ? yes : no;
            if (greater < least) {
                best = charge;
                least = greater;
            }
        }
        return best;
    }

    BigInteger[] chance(int c, int charge) {
        BigInteger above = chanceFrom(c, charge, new ArrayList<>(), 0);
        BigInteger below = BigInteger.valueOf(16).pow(events.size());
        BigInteger by = above.gcd(below);
        return new BigInteger[] {above.divide(by), below.divide(by)};
    }

    private BigInteger chanceFrom(int c, int charge, List<Event> are, int next) {
        if (next == events.size()) {
            return cleared(new World(tales(), are), charge) ? BigInteger.ONE : BigInteger.ZERO;
        }
        BigInteger not = chanceFrom(c, charge, are, next + 1).multiply(BigInteger.valueOf(16 - c));
        List<Event> more = new ArrayList<>(are);
        more.add(events.get(next));
        return not.add(chanceFrom(c, charge, more, next + 1).multiply(BigInteger.valueOf(c)));
    }

    World life(int seed, int n) {
        List<Tale> all = new ArrayList<>();
        long[] now = {seed};
        for (int i = 0; i < n; i++) {
            all.add(new Tale(lot(now, 24), lot(now, 8), lot(now, 10), lot(now, 3)));
        }
        return new World(all, events);
    }

    private static int lot(long[] seed, int m) {
        seed[0] = Math.floorMod(1103515245L * Math.floorMod(seed[0], 1L << 32) + 12345, 1L << 32);
        return (int) (seed[0] / 65536 % m);
    }
}
