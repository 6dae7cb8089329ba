import java.util.List;
import java.util.Random;

/** Every question, of many worlds drawn by seeds, against the document said over again in Model. */
public final class ModelTest {
    private static final Check CHECK = new Check();

    public static void main(String[] args) {
        for (int seed = 0; seed < 400; seed++) {
            world(seed);
        }
        for (int seed = 0; seed < 3000; seed++) {
            texts(seed);
        }
        CHECK.end();
    }

    private static void world(int seed) {
        Random lots = new Random(seed);
        Model m = new Model();
        // Few nights, towns and witnesses, so that tales meet.
        int nights = 1 + lots.nextInt(seed % 3 == 0 ? 24 : 6);
        int towns = 2 + lots.nextInt(7);
        int witnesses = 1 + lots.nextInt(10);
        m.taleText = tales(lots, lots.nextInt(13), nights, towns, witnesses);
        m.chargeText = charges(lots, lots.nextInt(9), nights, towns);
        m.need = 1 + lots.nextInt(seed % 5 == 0 ? 40 : 10);
        int events = lots.nextInt(seed % 4 == 0 ? 9 : 5);
        for (int i = 0; i < events; i++) {
            m.events.add(new Model.Event(lots.nextInt(3), lots.nextInt(nights), lots.nextInt(10) % (towns + 1)));
        }
        int seen = lots.nextInt(3);
        for (int i = 0; i < seen; i++) {
            m.seen.add(new Model.Seen(lots.nextInt(Math.min(8, m.charges().size() + 1)), lots.nextInt(2)));
        }
        String name = seed + ": '" + m.taleText + "' '" + m.chargeText + "' " + m.need + " " + m.events + " " + m.seen;
        ofTales(name, made(m), m);
        for (int town = 0; town < 8; town++) {
            ofTown(name, made(m), m, town);
        }
        ofCharges(name, made(m), m, lots.nextInt(17));
        ofAll(name, made(m), m, lots);
    }

    /** A new object told as the model is: each part of a world has one, so that its 512 calls are enough. */
    private static SwornElsewhere made(Model m) {
        SwornElsewhere x = Check.of(m.taleText, m.chargeText);
        x.need(m.need);
        for (Model.Event e : m.events) {
            x.event(e.kind(), e.night(), e.number());
        }
        for (Model.Seen s : m.seen) {
            x.seen(s.charge(), s.is());
        }
        return x;
    }

    private static String tales(Random lots, int n, int nights, int towns, int witnesses) {
        StringBuilder told = new StringBuilder();
        for (int i = 0; i < n; i++) {
            told.append(i == 0 ? "" : ";").append((char) ('a' + lots.nextInt(nights))).append(lots.nextInt(towns));
            told.append(lots.nextInt(witnesses)).append("sdk".charAt(lots.nextInt(3)));
        }
        return told.toString();
    }

    private static String charges(Random lots, int n, int nights, int towns) {
        StringBuilder told = new StringBuilder();
        for (int i = 0; i < n; i++) {
            told.append(i == 0 ? "" : ";").append((char) ('a' + lots.nextInt(nights))).append(lots.nextInt(towns));
        }
        return told.toString();
    }

    private static void ofTales(String name, SwornElsewhere x, Model m) {
        Model.World w = m.world();
        List<Model.Tale> tales = m.tales();
        CHECK.due(name + " tales", x.count(0), tales.size());
        for (int i = 0; i < tales.size(); i++) {
            for (int j = 0; j < tales.size(); j++) {
                int clash = i == j ? -2 : Model.World.clash(tales.get(i), tales.get(j)) ? 1 : 0;
                CHECK.due(name + " clash " + i + " " + j, x.clash(i, j), clash);
            }
            CHECK.due(name + " counts " + i, x.stands(i, 0), w.counts(i) ? 1 : 0);
            CHECK.due(name + " weighs " + i, x.stands(i, 1), w.weighs(i));
            CHECK.due(name + " against " + i, x.stands(i, 2), w.against(i));
            int[] move = m.move(i);
            CHECK.due(name + " move " + i, x.move(i, 0), move[0]);
            CHECK.due(name + " move, how many " + i, x.move(i, 1), move[1]);
            CHECK.due(name + " by " + i, x.was(i, 0), m.was(i, 0));
            CHECK.due(name + " sort " + i, x.was(i, 1), m.was(i, 1));
            CHECK.due(name + " ask " + i, x.ask(i), m.ask(i));
        }
    }

    private static void ofTown(String name, SwornElsewhere x, Model m, int town) {
        Model.World w = m.world();
        x.sheet(0, 0, 24);
        x.write(town, 0);
        for (int night = 0; night < 24; night++) {
            CHECK.due(name + " standing " + night + " " + town, x.man(night, town, 0), w.standing(night, town));
            CHECK.due(name + " rank " + night + " " + town, x.man(night, town, 1), w.rank(night, town));
            CHECK.due(name + " written " + night + " " + town, x.get(0, 0, night), w.standing(night, town));
        }
        for (int night = 0; town == 0 && night < 24; night++) {
            CHECK.due(name + " where " + night, x.where(night), w.where(night));
        }
    }

    private static void ofCharges(String name, SwornElsewhere x, Model m, int c) {
        Model.World w = m.world();
        CHECK.due(name + " charges", x.count(1), m.charges().size());
        for (int i = 0; i < m.charges().size(); i++) {
            CHECK.due(name + " belief " + i, x.belief(i), w.belief(m.charges().get(i)));
            CHECK.due(name + " cleared " + i, x.cleared(i, 0), m.cleared(w, i) ? 1 : 0);
            CHECK.due(name + " by town " + i, x.cleared(i, 1), w.town(m.charges().get(i)));
        }
        if (!m.charges().isEmpty()) {
            int i = m.charges().size() - 1;
            CHECK.due(name + " above " + c, x.chance(c, i, 0), m.chance(c, i)[0].longValueExact());
            CHECK.due(name + " below " + c, x.chance(c, i, 1), m.chance(c, i)[1].longValueExact());
        }
    }

    private static void ofAll(String name, SwornElsewhere x, Model m, Random lots) {
        Model.World w = m.world();
        int count = 0;
        int men = 0;
        int wardens = 0;
        int liar = -1;
        int best = -1;
        for (int i = 0; i < m.tales().size(); i++) {
            count += w.counts(i) ? 1 : 0;
        }
        for (int town = 7; town >= 0; town--) {
            men += w.rank(23, town) > 0 ? 1 : 0;
            wardens += w.rank(23, town) == 3 ? 1 : 0;
            if (w.rank(23, town) > 0 && (best == -1 || w.standing(23, town) >= w.standing(23, best))) {
                best = town;
            }
        }
        for (int witness = 9; witness >= 0; witness--) {
            if (w.lies(witness) > 0 && (liar == -1 || w.lies(witness) >= w.lies(liar))) {
                liar = witness;
            }
        }
        CHECK.dueAll(name + " sum", new long[] {x.sum(0), x.sum(1), x.sum(2), x.sum(3), x.liar(), x.best(), x.count(6)},
            m.cleared(w), count, men, wardens, liar, best, m.cleared(w));
        int clean = m.clean(m.tales().size(), 0);
        List<Integer> spare = m.spare();
        CHECK.dueAll(name + " plans", new long[] {x.drop(0), x.drop(1), x.clean(0), x.clean(1), x.spare(-1), x.spare(0),
            x.spare(1), x.never()}, m.drop()[0], m.drop()[1], Integer.bitCount(clean), clean,
            spare == null ? -1 : spare.size(), nth(spare, 0), nth(spare, 1), m.never());
        int seed = lots.nextInt();
        int n = lots.nextInt(13);
        Model.World life = m.life(seed, n);
        int counting = 0;
        for (int i = 0; i < n; i++) {
            counting += life.counts(i) ? 1 : 0;
        }
        CHECK.due(name + " life " + seed + " " + n, x.lives(seed, n, 0), m.cleared(life));
        CHECK.due(name + " life " + seed + " " + n, x.lives(seed, n, 1), counting);
    }

    private static int nth(List<Integer> row, int i) {
        return row == null || i >= row.size() ? -1 : row.get(i);
    }

    /** Texts with a wrong byte here and there: where they fail. */
    private static void texts(int seed) {
        Random lots = new Random(seed);
        StringBuilder tales = new StringBuilder(tales(lots, lots.nextInt(13), 24, 8, 10));
        StringBuilder charges = new StringBuilder(charges(lots, lots.nextInt(9), 24, 8));
        spoil(lots, tales);
        spoil(lots, charges);
        SwornElsewhere x = Check.of(tales.toString(), charges.toString());
        CHECK.due("fault of '" + tales + "'", x.fault(0), Model.fault(tales.toString(), true));
        CHECK.due("fault of '" + charges + "'", x.fault(1), Model.fault(charges.toString(), false));
    }

    private static void spoil(Random lots, StringBuilder text) {
        if (text.length() > 0 && lots.nextBoolean()) {
            text.setLength(lots.nextInt(text.length()) + 1);
        }
        if (text.length() > 0 && lots.nextBoolean()) {
            text.setCharAt(lots.nextInt(text.length()), "ax07sdk;9yz8/:\n!".charAt(lots.nextInt(16)));
        }
    }
}
