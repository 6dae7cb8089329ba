import java.lang.reflect.InvocationTargetException;
import java.lang.reflect.Method;
import java.lang.reflect.Modifier;
import java.util.ArrayList;
import java.util.Comparator;
import java.util.List;
import java.util.Random;

/** Any arguments in any state: no call throws, a refusal changes nothing, and the same calls answer alike. */
public final class WildTest {
    private static final Check CHECK = new Check();
    private static final int[] FAR = {Integer.MIN_VALUE, Integer.MIN_VALUE + 1, -61, -2, -1, 60, 61, 255, 256, 65536,
        Integer.MAX_VALUE - 1, Integer.MAX_VALUE};
    private static final String SIGNS = "amx0179sdk;;!";
    // With what is told first and asked last, a run stays within the 512 calls of an object.
    private static final int CALLS = 160;

    public static void main(String[] args) throws Exception {
        List<Method> calls = calls();
        for (int seed = 0; seed < 1500; seed++) {
            run(seed, calls);
        }
        CHECK.end();
    }

    private static List<Method> calls() {
        List<Method> calls = new ArrayList<>();
        for (Method m : SwornElsewhere.class.getDeclaredMethods()) {
            if (Modifier.isPublic(m.getModifiers())) {
                calls.add(m);
            }
        }
        calls.sort(Comparator.comparing(Method::getName));
        return calls;
    }

    private static void run(int seed, List<Method> calls) throws Exception {
        Random lots = new Random(seed);
        SwornElsewhere x = start(seed);
        SwornElsewhere twin = start(seed);
        // The same but for the calls that were refused.
        SwornElsewhere spared = start(seed);
        int[] forms = {0, 0, 0, 0};
        for (int i = 0; i < CALLS; i++) {
            Method call = calls.get(lots.nextInt(calls.size()));
            Object[] with = arguments(lots, call);
            String name = seed + ", call " + i + ": " + call.getName() + List.of(with);
            long got = answer(name, x, call, with);
            CHECK.due(name + " (alike)", got, answer(name, twin, call, with));
            if (!refused(call, got)) {
                answer(name, spared, call, with);
                if (call.getName().equals("sheet")) {
                    forms[(Integer) with[0]] = (Integer) with[1];
                }
            }
        }
        CHECK.due(seed + ": digest without what was refused", x.digest(), spared.digest());
        for (int s = 0; s < 4; s++) {
            for (int i = 0; i < 60; i++) {
                CHECK.due(seed + ": item " + i + " of " + s, x.get(s, forms[s], i), spared.get(s, forms[s], i));
            }
            CHECK.due(seed + ": items of " + s, x.lose(s), spared.lose(s));
        }
    }

    /** Half of the runs begin with much told. */
    private static SwornElsewhere start(int seed) {
        SwornElsewhere x = new SwornElsewhere();
        if (seed % 2 == 0) {
            Check.tell(x, 0, "a01s;c12d;c13d;c10k;e30s;e34d;f25s;g61k;h61k;i40s;c11d;x73s");
            Check.tell(x, 1, "c0;c1;e1;f2;g3;i7;x7;a1");
        }
        return x;
    }

    private static Object[] arguments(Random lots, Method call) {
        Object[] with = new Object[call.getParameterCount()];
        for (int k = 0; k < with.length; k++) {
            int near = lots.nextInt(lots.nextBoolean() ? 3 : 26) - (lots.nextInt(8) == 0 ? 1 : 0);
            with[k] = lots.nextInt(8) == 0 ? FAR[lots.nextInt(FAR.length)] : near;
        }
        if (call.getName().equals("type") && lots.nextInt(4) > 0) {
            with[1] = (int) SIGNS.charAt(lots.nextInt(SIGNS.length()));
        }
        return with;
    }

    private static long answer(String name, SwornElsewhere x, Method call, Object[] with) throws Exception {
        try {
            return ((Number) call.invoke(x, with)).longValue();
        } catch (InvocationTargetException e) {
            CHECK.due(name + " threw " + e.getCause(), 1, 0);
            return 0;
        }
    }

    private static boolean refused(Method call, long got) {
        switch (call.getName()) {
            case "belief": case "get": case "digest": return got == Check.LEAST;
            case "chance": return got < 0;
            default: return got < -1;
        }
    }
}
