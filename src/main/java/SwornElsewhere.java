import java.util.Arrays;

/** A man called Frost, of Hull, and all who came to be of him by being sworn elsewhere. */
public final class SwornElsewhere {
    public static final int NONE = -1, BAD = -2, NOT = -3, FULL = -4;

    private static final int NIGHTS = 24, TOWNS = 8, WITNESSES = 10, SORTS = 3;
    private static final int MOST_TALES = 12, MOST_CHARGES = 8, MOST_EVENTS = 8, MOST_SEEN = 8;
    private static final int TEXTS = 2, TALE_BYTES = 59, CHARGE_BYTES = 23;
    // A part of a text with the sign behind it that parts it from the next.
    private static final int TALE_STEP = 5, CHARGE_STEP = 3;
    private static final int SWORN = 0, DOUBTFUL = 1, KIN = 2;
    private static final int KINDS = 3, TURNS = 0, FAIR = 1, LETTER = 2, EVENT_NUMBERS = 10;
    private static final int FIRST_NEED = 6, MOST_NEED = 40, MOST_STANDING = 40;
    private static final int SHOP = 6, CHURCH = 15, CHURCHWARDEN = 3;
    private static final int ALL_TOWNS = 255, SIXTEENTHS = 16;
    private static final int SHEETS = 4, FORMS = 3, BYTES = 0, SHORTS = 1, MOST_ITEMS = 60;
    private static final int NULL = 1, INDEX = 2, CAST = 3, STORE = 4, SIZE = 5;
    private static final int LEAST_INT = -2147483648;
    private static final long LEAST_LONG = -9223372036854775808L;

    private final Text taleText = new Text(TALE_BYTES, TALE_STEP);
    private final Text chargeText = new Text(CHARGE_BYTES, CHARGE_STEP);
    private final Tales told = new Tales();
    // What might have been told instead; filled anew by each act that needs it.
    private final Tales trial = new Tales();
    private final Charges charges = new Charges();
    private final Events events = new Events();
    private final Bench bench = new Bench(told, events);
    private final int[] seenCharge = new int[MOST_SEEN];
    private final int[] seenIs = new int[MOST_SEEN];
    private final Sheet[] sheets = new Sheet[SHEETS];
    // Rows for ask() and chance(), made once so that no call makes its own.
    private final int[] tally = new int[MOST_CHARGES];
    private final long[] favour = new long[MOST_CHARGES];
    private int needed = FIRST_NEED;
    private int seenSize = 0;
    private int latestFinding = 0;

    public SwornElsewhere() {
    }

    // ---- tales, charges, need, events

    public int type(int text, int b) {
        if (outside(text, TEXTS) || outside(b, 256)) {
            return BAD;
        }
        Text typed = textOf(text);
        if (typed.size >= typed.bytes.length) {
            return FULL;
        }
        typed.bytes[typed.size] = b;
        typed.size++;
        tellAnew();
        return typed.size;
    }

    public int wipe(int text) {
        if (outside(text, TEXTS)) {
            return BAD;
        }
        Text wiped = textOf(text);
        int had = wiped.size;
        wiped.size = 0;
        tellAnew();
        return had;
    }

    public int undo(int text) {
        if (outside(text, TEXTS)) {
            return BAD;
        }
        Text undone = textOf(text);
        if (undone.size == 0) {
            return NOT;
        }
        undone.size--;
        tellAnew();
        return undone.size;
    }

    public int fault(int text) {
        return outside(text, TEXTS) ? BAD : textOf(text).faultPlace();
    }

    public int tale(int tale, int what) {
        if (outside(tale, told.size)) {
            return BAD;
        }
        switch (what) {
            case 0: return told.night[tale];
            case 1: return told.town[tale];
            case 2: return told.witness[tale];
            case 3: return told.sort[tale];
            default: return BAD;
        }
    }

    public int charge(int charge, int what) {
        if (outside(charge, charges.size) || outside(what, 2)) {
            return BAD;
        }
        return what == 0 ? charges.night[charge] : charges.town[charge];
    }

    public int need(int v) {
        if (v < 1 || v > MOST_NEED) {
            return BAD;
        }
        int before = needed;
        needed = v;
        return before;
    }

    public int event(int kind, int night, int number) {
        if (outside(kind, KINDS) || outside(night, NIGHTS) || outside(number, EVENT_NUMBERS)) {
            return BAD;
        }
        if (events.size >= MOST_EVENTS) {
            return FULL;
        }
        events.kind[events.size] = kind;
        events.night[events.size] = night;
        events.number[events.size] = number;
        events.size++;
        return events.size;
    }

    public int back() {
        if (events.size == 0) {
            return NOT;
        }
        events.size--;
        return events.size;
    }

    public int read(int s) {
        if (outside(s, SHEETS)) {
            return BAD;
        }
        Sheet from = sheets[s];
        if (from == null) {
            return finding(NULL);
        }
        int taken = 0;
        for (int at = 0; at + 2 < from.items.length; at += 3) {
            if (event(from.items[at], from.items[at + 1], from.items[at + 2]) < 0) {
                break;
            }
            taken++;
        }
        return taken;
    }

    // ---- what stands

    public int clash(int one, int other) {
        if (outside(one, told.size) || outside(other, told.size) || one == other) {
            return BAD;
        }
        return told.apart(one, other) ? 1 : 0;
    }

    public int stands(int tale, int what) {
        if (outside(tale, told.size) || outside(what, 3)) {
            return BAD;
        }
        hearAsTold();
        if (what == 0) {
            return bench.counts[tale] ? 1 : 0;
        }
        return what == 1 ? bench.weight[tale] : bench.firstAgainst(tale);
    }

    public int man(int night, int town, int what) {
        if (outside(night, NIGHTS) || outside(town, TOWNS) || outside(what, 2)) {
            return BAD;
        }
        hearAsTold();
        int standing = bench.standing(night, town);
        return what == 0 ? Math.max(0, standing) : rankBy(standing);
    }

    public int belief(int charge) {
        if (outside(charge, charges.size)) {
            return LEAST_INT;
        }
        hearAsTold();
        return bench.trust(charges.night[charge], charges.town[charge]);
    }

    public int cleared(int charge, int what) {
        if (outside(charge, charges.size) || outside(what, 2)) {
            return BAD;
        }
        hearAsTold();
        int night = charges.night[charge];
        int town = charges.town[charge];
        if (what == 0) {
            return bench.trust(night, town) >= needed ? 1 : 0;
        }
        return bench.trustedTown(night, town);
    }

    public int sum(int what) {
        if (outside(what, 4)) {
            return BAD;
        }
        int clearedOf = clearedBits(told, events.all());
        switch (what) {
            case 0: return Integer.bitCount(clearedOf);
            case 1: return bench.counted;
            case 2: return bench.menOfRank(1);
            default: return bench.menOfRank(CHURCHWARDEN);
        }
    }

    public int liar() {
        hearAsTold();
        int worst = NONE;
        int most = 0;
        for (int witness = 0; witness < WITNESSES; witness++) {
            int lies = bench.fallenOf(witness);
            if (lies > most) {
                worst = witness;
                most = lies;
            }
        }
        return worst;
    }

    public int best() {
        hearAsTold();
        int first = NONE;
        int most = NONE;
        for (int town = 0; town < TOWNS; town++) {
            int standing = bench.standing(NIGHTS - 1, town);
            if (standing > most) {
                first = town;
                most = standing;
            }
        }
        return first;
    }

    public int where(int night) {
        if (outside(night, NIGHTS)) {
            return BAD;
        }
        hearAsTold();
        int fromBefore = bench.swornTowns(0);
        for (int at = 1; at <= night; at++) {
            fromBefore = reach(fromBefore) & bench.swornTowns(at);
        }
        int fromBehind = bench.swornTowns(NIGHTS - 1);
        for (int at = NIGHTS - 2; at >= night; at--) {
            fromBehind = reach(fromBehind) & bench.swornTowns(at);
        }
        return fromBefore & fromBehind;
    }

    // ---- plans

    public int move(int tale, int what) {
        if (outside(tale, told.size) || outside(what, 2)) {
            return BAD;
        }
        trial.becomeLike(told);
        int which = NONE;
        int most = NONE;
        for (int town = 0; town < TOWNS; town++) {
            trial.town[tale] = town;
            int many = Integer.bitCount(clearedBits(trial, events.all()));
            if (many > most) {
                which = town;
                most = many;
            }
        }
        return what == 0 ? which : most;
    }

    public int drop(int what) {
        if (outside(what, 2)) {
            return BAD;
        }
        int which = NONE;
        int most = NONE;
        for (int tale = 0; tale < told.size; tale++) {
            trial.becomeLike(told);
            trial.leaveOut(tale);
            int many = Integer.bitCount(clearedBits(trial, events.all()));
            if (many > most) {
                which = tale;
                most = many;
            }
        }
        return what == 0 ? which : most;
    }

    public int clean(int what) {
        if (outside(what, 2)) {
            return BAD;
        }
        int most = 0;
        for (int bits = 1; bits < 1 << told.size; bits++) {
            if (Integer.bitCount(bits) > Integer.bitCount(most) && told.together(bits)) {
                most = bits;
            }
        }
        return what == 0 ? Integer.bitCount(most) : most;
    }

    public int spare(int i) {
        if (i != NONE && outside(i, 2)) {
            return BAD;
        }
        int bits = sparedBits();
        if (bits == NONE) {
            return NONE;
        }
        return i == NONE ? Integer.bitCount(bits) : nthBit(bits, i);
    }

    // ---- seen, chance, lives

    public int seen(int charge, int is) {
        if (outside(charge, MOST_CHARGES) || outside(is, 2)) {
            return BAD;
        }
        if (seenSize >= MOST_SEEN) {
            return FULL;
        }
        seenCharge[seenSize] = charge;
        seenIs[seenSize] = is;
        seenSize++;
        return seenSize;
    }

    public int forget() {
        int had = seenSize;
        seenSize = 0;
        return had;
    }

    public int never() {
        int bits = 0;
        for (int gone = 0; gone < events.size; gone++) {
            if (comesOutSo(clearedBits(told, events.all() & ~(1 << gone)))) {
                bits |= 1 << gone;
            }
        }
        return bits;
    }

    public int was(int tale, int what) {
        if (outside(tale, told.size) || outside(what, 2)) {
            return BAD;
        }
        trial.becomeLike(told);
        int[] row = what == 0 ? trial.witness : trial.sort;
        int many = what == 0 ? WITNESSES : SORTS;
        int bits = 0;
        for (int v = 0; v < many; v++) {
            row[tale] = v;
            if (comesOutSo(clearedBits(trial, events.all()))) {
                bits |= 1 << v;
            }
        }
        return bits;
    }

    public int ask(int tale) {
        if (outside(tale, told.size)) {
            return BAD;
        }
        trial.becomeLike(told);
        Arrays.fill(tally, 0);
        int fitting = 0;
        for (int witness = 0; witness < WITNESSES; witness++) {
            trial.witness[tale] = witness;
            int clearedOf = clearedBits(trial, events.all());
            if (comesOutSo(clearedOf)) {
                fitting++;
                addToTally(clearedOf);
            }
        }
        int first = 0;
        int least = fitting + 1;
        for (int charge = 0; charge < MOST_CHARGES; charge++) {
            int alike = Math.max(tally[charge], fitting - tally[charge]);
            if (alike < least) {
                first = charge;
                least = alike;
            }
        }
        return first;
    }

    public long chance(int c, int charge, int what) {
        if (outside(c, SIXTEENTHS + 1) || outside(charge, charges.size) || outside(what, 2)) {
            return LEAST_LONG - BAD;
        }
        tallyFavour(c);
        return lowestTerm(favour[charge], what);
    }

    public int lives(int seed, int n, int what) {
        if (outside(n, MOST_TALES + 1) || outside(what, 2)) {
            return BAD;
        }
        trial.drawLots(seed, n);
        int clearedOf = clearedBits(trial, events.all());
        return what == 0 ? Integer.bitCount(clearedOf) : bench.counted;
    }

    // ---- sheets

    public int sheet(int s, int form, int n) {
        if (outside(s, SHEETS) || outside(form, FORMS) || n > MOST_ITEMS) {
            return BAD;
        }
        if (n < 0) {
            return finding(SIZE);
        }
        sheets[s] = new Sheet(form, n);
        return n;
    }

    public int lose(int s) {
        if (outside(s, SHEETS)) {
            return BAD;
        }
        Sheet lost = sheets[s];
        if (lost == null) {
            return finding(NULL);
        }
        sheets[s] = null;
        return lost.items.length;
    }

    public int put(int s, int form, int i, int v) {
        if (outside(s, SHEETS) || outside(form, FORMS)) {
            return BAD;
        }
        Sheet to = sheets[s];
        if (to == null) {
            return finding(NULL);
        }
        if (to.form != form) {
            return finding(CAST);
        }
        if (outside(i, to.items.length)) {
            return finding(INDEX);
        }
        to.items[i] = to.cut(v);
        return 1;
    }

    public int get(int s, int form, int i) {
        if (outside(s, SHEETS) || outside(form, FORMS)) {
            return LEAST_INT;
        }
        Sheet from = sheets[s];
        if (from == null) {
            return findingAsLeast(NULL);
        }
        if (from.form != form) {
            return findingAsLeast(CAST);
        }
        if (outside(i, from.items.length)) {
            return findingAsLeast(INDEX);
        }
        return from.items[i];
    }

    public int copy(int s, int i, int t, int j, int n) {
        if (outside(s, SHEETS) || outside(t, SHEETS)) {
            return BAD;
        }
        Sheet from = sheets[s];
        Sheet to = sheets[t];
        if (from == null || to == null) {
            return finding(NULL);
        }
        if (from.form != to.form) {
            return finding(STORE);
        }
        if (n < 0 || !from.spans(i, n) || !to.spans(j, n)) {
            return finding(INDEX);
        }
        System.arraycopy(from.items, i, to.items, j, n);
        return 1;
    }

    public int write(int town, int s) {
        if (outside(town, TOWNS) || outside(s, SHEETS)) {
            return BAD;
        }
        Sheet to = sheets[s];
        if (to == null) {
            return finding(NULL);
        }
        hearAsTold();
        int many = Math.min(NIGHTS, to.items.length);
        for (int night = 0; night < many; night++) {
            to.items[night] = Math.max(0, bench.standing(night, town));
        }
        return many;
    }

    public int count(int what) {
        switch (what) {
            case 0: return told.size;
            case 1: return charges.size;
            case 2: return taleText.size;
            case 3: return chargeText.size;
            case 4: return needed;
            case 5: return events.size;
            case 6: return Integer.bitCount(clearedBits(told, events.all()));
            case 7: return seenSize;
            case 8: return latestFinding;
            default: return BAD;
        }
    }

    public long digest() {
        long h = 17;
        for (int what = 0; what < 8; what++) {
            h = 31 * h + count(what);
        }
        for (int text = 0; text < TEXTS; text++) {
            h = 31 * h + fault(text);
        }
        for (int town = 0; town < TOWNS; town++) {
            h = 31 * h + man(3, town, 0);
            h = 31 * h + man(12, town, 0);
            h = 31 * h + man(23, town, 0);
            h = 31 * h + man(23, town, 1);
        }
        for (int night = 0; night < NIGHTS; night++) {
            h = 31 * h + where(night);
        }
        h = digestOfCharges(digestOfTales(h));
        for (int what = 0; what < 4; what++) {
            h = 31 * h + sum(what);
        }
        h = 31 * h + liar();
        h = 31 * h + best();
        h = 31 * h + drop(0);
        h = 31 * h + drop(1);
        h = 31 * h + clean(0);
        h = 31 * h + clean(1);
        h = 31 * h + spare(NONE);
        h = 31 * h + spare(0);
        h = 31 * h + never();
        h = 31 * h + lives(7, 9, 0);
        return 31 * h + lives(7, 9, 1);
    }

    private long digestOfTales(long before) {
        long h = before;
        for (int tale = 0; tale < told.size; tale++) {
            for (int what = 0; what < 4; what++) {
                h = 31 * h + tale(tale, what);
            }
            for (int what = 0; what < 3; what++) {
                h = 31 * h + stands(tale, what);
            }
            h = 31 * h + move(tale, 0);
            h = 31 * h + move(tale, 1);
            h = 31 * h + was(tale, 0);
            h = 31 * h + was(tale, 1);
            h = 31 * h + ask(tale);
        }
        return h;
    }

    private long digestOfCharges(long before) {
        long h = before;
        // One tally serves all charges: chance() would make it anew for each.
        tallyFavour(5);
        for (int charge = 0; charge < charges.size; charge++) {
            h = 31 * h + charge(charge, 0);
            h = 31 * h + charge(charge, 1);
            h = 31 * h + belief(charge);
            h = 31 * h + cleared(charge, 0);
            h = 31 * h + cleared(charge, 1);
            h = 31 * h + lowestTerm(favour[charge], 0);
            h = 31 * h + lowestTerm(favour[charge], 1);
        }
        return h;
    }

    private static boolean outside(int v, int many) {
        return v < 0 || v >= many;
    }

    private int finding(int number) {
        latestFinding = number;
        return -10 - number;
    }

    /** For get(), of which every other int may be an item. */
    private int findingAsLeast(int number) {
        latestFinding = number;
        return LEAST_INT;
    }

    private Text textOf(int text) {
        return text == 0 ? taleText : chargeText;
    }

    private void tellAnew() {
        told.takeFrom(taleText);
        charges.takeFrom(chargeText);
    }

    private void hearAsTold() {
        bench.hear(told, events.all());
    }

    /** Of which charges he is cleared, as bits, if these tales are told and those events are. */
    private int clearedBits(Tales heard, int held) {
        bench.hear(heard, held);
        int bits = 0;
        for (int i = 0; i < charges.size; i++) {
            if (bench.trust(charges.night[i], charges.town[i]) >= needed) {
                bits |= 1 << i;
            }
        }
        return bits;
    }

    private boolean comesOutSo(int clearedOf) {
        for (int i = 0; i < seenSize; i++) {
            if (seenCharge[i] >= charges.size || (clearedOf >> seenCharge[i] & 1) != seenIs[i]) {
                return false;
            }
        }
        return true;
    }

    /** The events, as bits, that had better not be; NONE: no two or fewer clear him of all. */
    private int sparedBits() {
        int all = events.all();
        int every = (1 << charges.size) - 1;
        if (clearedBits(told, all) == every) {
            return 0;
        }
        for (int one = 0; one < events.size; one++) {
            if (clearedBits(told, all & ~(1 << one)) == every) {
                return 1 << one;
            }
        }
        for (int one = 0; one < events.size; one++) {
            for (int other = one + 1; other < events.size; other++) {
                int both = 1 << one | 1 << other;
                if (clearedBits(told, all & ~both) == every) {
                    return both;
                }
            }
        }
        return NONE;
    }

    private static int nthBit(int bits, int n) {
        int ahead = 0;
        for (int i = 0; i < MOST_EVENTS; i++) {
            if ((bits >> i & 1) == 1) {
                if (ahead == n) {
                    return i;
                }
                ahead++;
            }
        }
        return NONE;
    }

    private void addToTally(int clearedOf) {
        for (int charge = 0; charge < MOST_CHARGES; charge++) {
            tally[charge] += clearedOf >> charge & 1;
        }
    }

    /** Of each charge, in how many of 16 to the number of events cases he is cleared. */
    private void tallyFavour(int c) {
        Arrays.fill(favour, 0L);
        for (int held = 0; held <= events.all(); held++) {
            int many = Integer.bitCount(held);
            long cases = power(c, many) * power(SIXTEENTHS - c, events.size - many);
            int clearedOf = cases == 0 ? 0 : clearedBits(told, held);
            for (int charge = 0; charge < charges.size; charge++) {
                favour[charge] += (clearedOf >> charge & 1) * cases;
            }
        }
    }

    private static long power(int base, int times) {
        long product = 1;
        for (int i = 0; i < times; i++) {
            product *= base;
        }
        return product;
    }

    /** What stands above (0) or below (1), in lowest terms: what is below is a power of two, so only twos go out. */
    private long lowestTerm(long cases, int what) {
        long above = cases;
        int twosBelow = 4 * events.size;
        while (twosBelow > 0 && (above & 1) == 0) {
            above >>= 1;
            twosBelow--;
        }
        return what == 0 ? above : 1L << twosBelow;
    }

    private static int reach(int towns) {
        return (towns | towns << 1 | towns >> 1) & ALL_TOWNS;
    }

    /** NONE stands for: there is no man; a man may have a standing of 0. */
    private static int rankBy(int standing) {
        if (standing == NONE) {
            return 0;
        }
        return standing < SHOP ? 1 : standing < CHURCH ? 2 : CHURCHWARDEN;
    }

    private static final class Text {
        final int[] bytes;
        final int step;
        int size = 0;

        Text(int most, int step) {
            this.bytes = new int[most];
            this.step = step;
        }

        /** No test for a part too many: the text is full before that could begin. */
        int faultPlace() {
            int inPart = 0;
            for (int at = 0; at < size; at++) {
                if (!fits(inPart, bytes[at])) {
                    return at;
                }
                inPart = inPart + 1 == step ? 0 : inPart + 1;
            }
            return size == 0 || inPart == step - 1 ? NONE : size;
        }

        private boolean fits(int inPart, int b) {
            if (inPart == step - 1) {
                return b == ';';
            }
            switch (inPart) {
                case 0: return b >= 'a' && b <= 'x';
                case 1: return b >= '0' && b <= '7';
                case 2: return b >= '0' && b <= '9';
                default: return b == 's' || b == 'd' || b == 'k';
            }
        }

        boolean hasFault() {
            return faultPlace() != NONE;
        }
    }

    private static final class Charges {
        final int[] night = new int[MOST_CHARGES];
        final int[] town = new int[MOST_CHARGES];
        int size = 0;

        void takeFrom(Text text) {
            size = text.hasFault() ? 0 : Math.min(MOST_CHARGES, (text.size + 1) / CHARGE_STEP);
            for (int i = 0; i < size; i++) {
                night[i] = text.bytes[i * CHARGE_STEP] - 'a';
                town[i] = text.bytes[i * CHARGE_STEP + 1] - '0';
            }
        }
    }

    private static final class Events {
        final int[] kind = new int[MOST_EVENTS];
        final int[] night = new int[MOST_EVENTS];
        final int[] number = new int[MOST_EVENTS];
        int size = 0;

        int all() {
            return (1 << size) - 1;
        }
    }

    private static final class Tales {
        final int[] night = new int[MOST_TALES];
        final int[] town = new int[MOST_TALES];
        final int[] witness = new int[MOST_TALES];
        final int[] sort = new int[MOST_TALES];
        int size = 0;
        private int lotSeed = 0;

        void takeFrom(Text text) {
            size = text.hasFault() ? 0 : Math.min(MOST_TALES, (text.size + 1) / TALE_STEP);
            for (int i = 0; i < size; i++) {
                int at = i * TALE_STEP;
                night[i] = text.bytes[at] - 'a';
                town[i] = text.bytes[at + 1] - '0';
                witness[i] = text.bytes[at + 2] - '0';
                int sign = text.bytes[at + 3];
                sort[i] = sign == 's' ? SWORN : sign == 'd' ? DOUBTFUL : KIN;
            }
        }

        void becomeLike(Tales other) {
            size = other.size;
            for (int i = 0; i < size; i++) {
                takeOver(i, other, i);
            }
        }

        void leaveOut(int gone) {
            for (int i = gone; i + 1 < size; i++) {
                takeOver(i, this, i + 1);
            }
            size--;
        }

        private void takeOver(int to, Tales other, int from) {
            night[to] = other.night[from];
            town[to] = other.town[from];
            witness[to] = other.witness[from];
            sort[to] = other.sort[from];
        }

        void drawLots(int seed, int many) {
            lotSeed = seed;
            size = many;
            for (int i = 0; i < size; i++) {
                night[i] = nextLot() % NIGHTS;
                town[i] = nextLot() % TOWNS;
                witness[i] = nextLot() % WITNESSES;
                sort[i] = nextLot() % SORTS;
            }
        }

        private int nextLot() {
            lotSeed = 1103515245 * lotSeed + 12345;
            return lotSeed >>> 16;
        }

        /** Whether two tales clash. */
        boolean apart(int one, int other) {
            return witness[one] == witness[other]
                && Math.abs(town[one] - town[other]) > Math.abs(night[one] - night[other]);
        }

        boolean together(int bits) {
            for (int one = 0; one < size; one++) {
                for (int other = 0; other < one; other++) {
                    if ((bits >> one & bits >> other & 1) == 1 && apart(one, other)) {
                        return false;
                    }
                }
            }
            return true;
        }
    }

    /** What stands by the tales that were heard last, with those of the events that were held to be. */
    private static final class Bench {
        final boolean[] counts = new boolean[MOST_TALES];
        final int[] weight = new int[MOST_TALES];
        int counted = 0;
        private final int[] birth = new int[TOWNS];
        // The kind of each event that is held to be; NONE for the others.
        private final int[] kind = new int[MOST_EVENTS];
        private final Events events;
        private Tales tales;

        Bench(Tales tales, Events events) {
            this.tales = tales;
            this.events = events;
        }

        void hear(Tales heard, int held) {
            tales = heard;
            counted = 0;
            for (int e = 0; e < events.size; e++) {
                kind[e] = (held >> e & 1) == 1 ? events.kind[e] : NONE;
            }
            for (int i = 0; i < tales.size; i++) {
                counts[i] = !spoiled(i) && firstAgainst(i) == NONE;
                counted += counts[i] ? 1 : 0;
            }
            Arrays.fill(birth, NONE);
            for (int i = 0; i < tales.size; i++) {
                weight[i] = counts[i] ? weigh(i) : 0;
                int town = tales.town[i];
                if (counts[i] && (birth[town] == NONE || tales.night[i] < birth[town])) {
                    birth[town] = tales.night[i];
                }
            }
        }

        /** Whether its witness has turned or a fair was in its town. */
        private boolean spoiled(int i) {
            for (int e = 0; e < events.size; e++) {
                int ago = tales.night[i] - events.night[e];
                if (kind[e] == TURNS && events.number[e] == tales.witness[i] && ago >= 0) {
                    return true;
                }
                if (kind[e] == FAIR && events.number[e] == tales.town[i] && ago == 0) {
                    return true;
                }
            }
            return false;
        }

        /** The least tale ahead that counts with which it clashes; NONE. */
        int firstAgainst(int i) {
            for (int ahead = 0; ahead < i; ahead++) {
                if (counts[ahead] && tales.apart(ahead, i)) {
                    return ahead;
                }
            }
            return NONE;
        }

        private int weigh(int i) {
            switch (tales.sort[i]) {
                case SWORN: return 3;
                case DOUBTFUL: return Math.min(3, 1 + othersFor(i));
                default: return fallenOf(tales.witness[i]) > 0 ? 0 : 2;
            }
        }

        /** How many other witnesses there are by whose word a tale of its night and town counts. */
        private int othersFor(int i) {
            int witnesses = 0;
            for (int j = 0; j < tales.size; j++) {
                if (counts[j] && tales.night[j] == tales.night[i] && tales.town[j] == tales.town[i]) {
                    witnesses |= 1 << tales.witness[j];
                }
            }
            return Integer.bitCount(witnesses & ~(1 << tales.witness[i]));
        }

        /** How many tales of a witness do not count. */
        int fallenOf(int witness) {
            int fallen = 0;
            for (int i = 0; i < tales.size; i++) {
                if (tales.witness[i] == witness && !counts[i]) {
                    fallen++;
                }
            }
            return fallen;
        }

        /** NONE: there is no man in that town behind that night. */
        int standing(int night, int town) {
            int born = birth[town];
            if (born == NONE || night < born) {
                return NONE;
            }
            int standing = night - born;
            for (int i = 0; i < tales.size; i++) {
                if (tales.town[i] == town && tales.night[i] <= night) {
                    standing += weight[i];
                }
            }
            for (int e = 0; e < events.size; e++) {
                boolean his = kind[e] == LETTER && events.number[e] == town;
                if (his && events.night[e] >= born && events.night[e] <= night) {
                    standing += 3;
                }
            }
            return Math.min(MOST_STANDING, standing);
        }

        /** How many men there are behind the last night, of that rank at least. */
        int menOfRank(int least) {
            int men = 0;
            for (int town = 0; town < TOWNS; town++) {
                if (rankBy(standing(NIGHTS - 1, town)) >= least) {
                    men++;
                }
            }
            return men;
        }

        private int weightIn(int night, int town) {
            int together = 0;
            for (int i = 0; i < tales.size; i++) {
                if (tales.night[i] == night && tales.town[i] == town) {
                    together += weight[i];
                }
            }
            return together;
        }

        private int support(int night, int town) {
            int together = weightIn(night, town);
            // Without weight no man is needed, and most towns have none.
            return together == 0 ? 0 : together * rankBy(standing(night, town));
        }

        /** What the bench believes of a charge of that night and town. */
        int trust(int night, int own) {
            int most = 0;
            for (int town = 0; town < TOWNS; town++) {
                if (town != own) {
                    most = Math.max(most, support(night, town));
                }
            }
            return most - weightIn(night, own);
        }

        int trustedTown(int night, int own) {
            int first = NONE;
            int most = NONE;
            for (int town = 0; town < TOWNS; town++) {
                int now = town == own ? NONE : support(night, town);
                if (now > most) {
                    first = town;
                    most = now;
                }
            }
            return first;
        }

        /** The towns, as bits, that the sworn tales of a night that count leave him. */
        int swornTowns(int night) {
            int towns = ALL_TOWNS;
            for (int i = 0; i < tales.size; i++) {
                if (counts[i] && tales.sort[i] == SWORN && tales.night[i] == night) {
                    towns &= 1 << tales.town[i];
                }
            }
            return towns;
        }
    }

    private static final class Sheet {
        final int form;
        final int[] items;

        Sheet(int form, int many) {
            this.form = form;
            this.items = new int[many];
        }

        /** The lowest bits of a number that an item of this form has. */
        int cut(int v) {
            return form == BYTES ? (byte) v : form == SHORTS ? (short) v : v;
        }

        boolean spans(int from, int many) {
            return from >= 0 && from <= items.length - many;
        }
    }
}
