import java.lang.reflect.Constructor;
import java.lang.reflect.Field;
import java.lang.reflect.Method;
import java.lang.reflect.Modifier;
import java.nio.charset.StandardCharsets;
import java.nio.file.Files;
import java.nio.file.Path;
import java.util.ArrayList;
import java.util.HashSet;
import java.util.List;
import java.util.Map;
import java.util.Set;
import java.util.TreeMap;
import java.util.TreeSet;
import java.util.regex.Matcher;
import java.util.regex.Pattern;

/** The rules of LANGUAGE.md that can be read off the source or the class, and the face of the document. */
public final class LanguageTest {
    private static final Check CHECK = new Check();
    private static final Path SOURCE = Path.of("src/main/java/SwornElsewhere.java");
    private static final Path DOCUMENT = Path.of("../shared/DOC.md");
    private static final int MOST_DEEP = 8;

    /** A method of the class, as its source tells it. */
    private record Own(String name, String parameters, String body) {
    }

    public static void main(String[] args) throws Exception {
        String code = withoutComments(Files.readString(SOURCE, StandardCharsets.US_ASCII));
        words(code);
        List<Own> methods = methods(code);
        parameters(methods);
        depths(methods);
        objects(methods);
        library(code);
        face();
        constants();
        members();
        CHECK.end();
    }

    private static String withoutComments(String code) {
        return code.replaceAll("(?s)/\\*.*?\\*/", "").replaceAll("//[^\n]*", "");
    }

    private static void none(String rule, String code, String pattern) {
        Matcher m = Pattern.compile(pattern).matcher(code);
        CHECK.due(rule + ": " + pattern, m.find() ? 1 : 0, 0);
    }

    private static void words(String code) {
        none("rule 0", code, "\\bpackage\\b");
        none("rule 2", code, "->|::");
        none("rule 5", code, "static\\s*\\{");
        none("rule 6", code, "\\b(throw|throws|try|catch|finally|synchronized|assert)\\b");
        none("rule 6", code, "\\b(hashCode|toString)\\b");
        none("rule 13", code, "\\b(Random|Thread|currentTimeMillis|nanoTime|File|getenv)\\b");
        none("rule 3", code, "\\b(Map|Set|Object|Exception|Optional|Stream)\\b");
    }

    private static void library(String code) {
        Set<String> allowed = Set.of("java.util.Arrays", "java.util.ArrayList", "java.util.List", "java.util.Iterator");
        Matcher imports = Pattern.compile("import\\s+([\\w.]+)\\s*;").matcher(code);
        while (imports.find()) {
            CHECK.due("rule 4: import " + imports.group(1), allowed.contains(imports.group(1)) ? 1 : 0, 1);
        }
        Set<String> calls = Set.of("Arrays.fill", "Arrays.copyOf", "Arrays.copyOfRange", "Math.max", "Math.min",
            "Math.abs", "Integer.bitCount", "System.arraycopy");
        Matcher library = Pattern.compile("\\b(?:Arrays|Math|Integer|Long|System)\\.\\w+").matcher(code);
        while (library.find()) {
            CHECK.due("rule 4: " + library.group(), calls.contains(library.group()) ? 1 : 0, 1);
        }
    }

    /** A method begins with a line that ends with ") {" behind a type and a name, and ends with a brace as far in. */
    private static List<Own> methods(String code) {
        Pattern head = Pattern.compile(
            "^( {4}| {8})(?! |if|for|while|switch|else|return)[\\w\\[\\] ]*?(\\w+)\\(([^()]*)\\) \\{$");
        List<String> lines = List.of(code.split("\n", -1));
        List<Own> methods = new ArrayList<>();
        for (int i = 0; i < lines.size(); i++) {
            Matcher m = head.matcher(lines.get(i));
            if (m.matches()) {
                int end = lines.subList(i, lines.size()).indexOf(m.group(1) + "}");
                String body = String.join("\n", lines.subList(i + 1, i + Math.max(1, end)));
                methods.add(new Own(m.group(2), m.group(3), body));
                CHECK.due("rule 11: length of " + lines.get(i), end > 0 && end <= 60 ? 1 : 0, 1);
            }
        }
        return methods;
    }

    private static void parameters(List<Own> methods) {
        for (Own m : methods) {
            CHECK.due("rule 11: parameters of " + m.name(), m.parameters().split(",").length <= 7 ? 1 : 0, 1);
        }
        CHECK.due("rule 11: methods were found", methods.size() > 80 ? 1 : 0, 1);
    }

    /** Methods of one name are taken for one, so that calls may seem deeper than they go, never less deep. */
    private static void depths(List<Own> methods) {
        Map<String, Set<String>> calls = new TreeMap<>();
        for (Own m : methods) {
            Matcher called = Pattern.compile("(?<!new )\\b([a-z]\\w*)\\(").matcher(m.body());
            Set<String> names = calls.computeIfAbsent(m.name(), name -> new TreeSet<>());
            while (called.find()) {
                if (!Set.of("if", "for", "while", "switch", "return").contains(called.group(1))) {
                    names.add(called.group(1));
                }
            }
        }
        for (String name : calls.keySet()) {
            int deep = depth(calls, name, 1);
            CHECK.due("rule 11: calls from " + name + " go " + deep + " deep", deep <= MOST_DEEP ? 1 : 0, 1);
        }
        CHECK.due("rule 11: calls were found", depth(calls, "digest", 1) > 5 ? 1 : 0, 1);
    }

    /** Those of the library count too; a recursion is deeper than any bound. */
    private static int depth(Map<String, Set<String>> calls, String name, int above) {
        int deepest = above;
        for (String called : calls.getOrDefault(name, Set.of())) {
            if (above <= MOST_DEEP) {
                deepest = Math.max(deepest, depth(calls, called, above + 1));
            }
        }
        return deepest;
    }

    /** Rows are made with the object and used again: of all calls only sheet() makes something. */
    private static void objects(List<Own> methods) {
        Set<String> makers = new TreeSet<>();
        for (Own m : methods) {
            if (Pattern.compile("\\bnew\\b|clone\\(|copyOf|Integer\\.valueOf|\"").matcher(m.body()).find()) {
                makers.add(m.name());
            }
        }
        CHECK.due("rule 12: objects are made by " + makers, makers.equals(Set.of("sheet", "Sheet", "Text")) ? 1 : 0, 1);
    }

    private static void constants() throws Exception {
        Matcher line = Pattern.compile("public static final int ([^;]*);").matcher(Files.readString(DOCUMENT));
        CHECK.due("the document's constants", line.find() ? 1 : 0, 1);
        String[] told = line.group(1).split(", ");
        CHECK.due("the document's constants, how many", told.length, 4);
        for (String constant : told) {
            String[] side = constant.split(" = ");
            CHECK.due("rule 1: " + constant, SwornElsewhere.class.getField(side[0]).getInt(null), Integer.parseInt(side[1]));
        }
    }

    private static String signature(Class<?> type, String name, Class<?>[] parameters) {
        StringBuilder all = new StringBuilder(type + " " + name);
        for (Class<?> p : parameters) {
            all.append(' ').append(p);
        }
        return all.toString();
    }

    private static void face() throws Exception {
        Set<String> due = new TreeSet<>();
        Matcher told = Pattern.compile("public (int|long) (\\w+)\\(([^)]*)\\);").matcher(Files.readString(DOCUMENT));
        while (told.find()) {
            int many = told.group(3).isEmpty() ? 0 : told.group(3).split(",").length;
            due.add(told.group(1) + " " + told.group(2) + " int".repeat(many));
        }
        CHECK.due("the document's methods", due.size(), 38);
        Set<String> are = new TreeSet<>();
        Set<String> names = new HashSet<>();
        for (Method m : SwornElsewhere.class.getDeclaredMethods()) {
            if (Modifier.isPublic(m.getModifiers())) {
                are.add(signature(m.getReturnType(), m.getName(), m.getParameterTypes()));
                names.add(m.getName());
            }
        }
        CHECK.due("rule 1: the face is " + are, are.equals(due) ? 1 : 0, 1);
        List<Class<?>> all = new ArrayList<>(List.of(SwornElsewhere.class.getDeclaredClasses()));
        all.add(SwornElsewhere.class);
        for (Class<?> c : all) {
            for (Method m : c.getDeclaredMethods()) {
                boolean twice = !Modifier.isPublic(m.getModifiers()) && names.contains(m.getName());
                CHECK.due("rule 1: " + m, twice ? 1 : 0, 0);
            }
        }
    }

    private static void members() {
        Class<?> it = SwornElsewhere.class;
        CHECK.due("rule 1: public and final", it.getModifiers(), Modifier.PUBLIC | Modifier.FINAL);
        int constants = 0;
        for (Field f : it.getDeclaredFields()) {
            boolean constant = Set.of("NONE", "BAD", "NOT", "FULL").contains(f.getName());
            int want = Modifier.PUBLIC | Modifier.STATIC | Modifier.FINAL;
            CHECK.due("rule 1: " + f, constant ? f.getModifiers() : f.getModifiers() & Modifier.PRIVATE,
                constant ? want : Modifier.PRIVATE);
            constants += constant ? 1 : 0;
            boolean loose = Modifier.isStatic(f.getModifiers()) && !Modifier.isFinal(f.getModifiers());
            CHECK.due("rule 5: " + f, loose ? 1 : 0, 0);
        }
        CHECK.due("rule 1: constants", constants, 4);
        for (Method m : it.getDeclaredMethods()) {
            boolean either = Modifier.isPublic(m.getModifiers()) || Modifier.isPrivate(m.getModifiers());
            CHECK.due("rule 1: public or private, " + m, either ? 1 : 0, 1);
        }
        Constructor<?>[] constructors = it.getDeclaredConstructors();
        CHECK.due("rule 1: constructors", constructors.length, 1);
        CHECK.due("rule 1: a public one", constructors[0].getModifiers(), Modifier.PUBLIC);
        CHECK.due("rule 11: classes", it.getDeclaredClasses().length <= 12 ? 1 : 0, 1);
        for (Class<?> c : it.getDeclaredClasses()) {
            CHECK.due("rule 2: " + c, Modifier.isStatic(c.getModifiers()) ? 1 : 0, 1);
            CHECK.due("rule 11: fields of " + c, c.getDeclaredFields().length <= 20 ? 1 : 0, 1);
        }
    }
}
