import java.lang.reflect.Method;
import java.lang.reflect.Modifier;
import java.util.HashMap;
import java.util.Map;
import java.util.Set;

/**
 * Calls written as words: "type 0 97" is type(0, 97), "tell 0 a00s" types a whole text in place of what was,
 * "times 3 back" is three calls, "where 0..23" one call for each; MIN and MAX are the ends of the ints,
 * LONGBAD is BAD where the answer is a long.
 */
final class Words {
    private static final Map<String, Method> CALLS = calls();

    private Words() {
    }

    private static Map<String, Method> calls() {
        Map<String, Method> calls = new HashMap<>();
        for (Method m : SwornElsewhere.class.getDeclaredMethods()) {
            if (Modifier.isPublic(m.getModifiers())) {
                calls.put(m.getName(), m);
            }
        }
        return calls;
    }

    /** The names of all calls of the face. */
    static Set<String> names() {
        return CALLS.keySet();
    }

    static long number(String word) {
        switch (word) {
            case "MIN": return Integer.MIN_VALUE;
            case "MAX": return Integer.MAX_VALUE;
            case "LONGBAD": return Long.MIN_VALUE + 2;
            default: return Long.parseLong(word);
        }
    }

    static long call(SwornElsewhere x, String words) {
        String[] word = words.trim().split(" +");
        Method call = CALLS.get(word[0]);
        if (call == null || call.getParameterCount() != word.length - 1) {
            throw new IllegalArgumentException("no such call: " + words);
        }
        Object[] with = new Object[word.length - 1];
        for (int i = 0; i < with.length; i++) {
            with[i] = Math.toIntExact(number(word[i + 1]));
        }
        try {
            return ((Number) call.invoke(x, with)).longValue();
        } catch (ReflectiveOperationException e) {
            throw new IllegalStateException(words, e);
        }
    }

    /** Runs calls, parted by commas or ends of lines; those with "= answer" are checked. */
    static void run(Check check, String name, SwornElsewhere x, String run) {
        for (String line : run.split("[,\n]")) {
            if (!line.isBlank()) {
                step(check, name, x, line.trim());
            }
        }
    }

    private static void step(Check check, String name, SwornElsewhere x, String line) {
        String[] side = line.split(" = ");
        String words = side[0].trim();
        if (words.startsWith("tell ")) {
            Check.tell(x, words.charAt(5) - '0', words.substring(6).trim());
        } else if (words.startsWith("times ")) {
            String[] part = words.split(" ", 3);
            for (int i = 0; i < Integer.parseInt(part[1]); i++) {
                one(check, name, x, part[2], side);
            }
        } else if (words.contains("..")) {
            String range = words.replaceAll(".* (\\S+\\.\\.\\S+).*", "$1");
            String[] end = range.split("\\.\\.");
            for (long v = number(end[0]); v <= number(end[1]); v++) {
                one(check, name, x, words.replace(range, "" + v), side);
            }
        } else {
            one(check, name, x, words, side);
        }
    }

    private static void one(Check check, String name, SwornElsewhere x, String words, String[] side) {
        long got = call(x, words);
        if (side.length > 1) {
            check.due(name + ": " + words, got, number(side[1].trim()));
        }
    }
}
