import java.lang.reflect.Constructor;
import java.lang.reflect.Field;
import java.lang.reflect.Method;
import java.lang.reflect.Modifier;
import java.nio.charset.StandardCharsets;
import java.nio.file.Files;
import java.nio.file.Path;
import java.util.ArrayList;
import java.util.HashSet;
import java.util.List;
import java.util.Set;
import java.util.TreeSet;
import java.util.regex.Matcher;
import java.util.regex.Pattern;

/** The rules of LANGUAGE.md that can be read off the source or the class, and the face of the document. */
public final class LanguageTest {
    private static final Check CHECK = new Check();
    private static final Path SOURCE = Path.of("src/main/java/SwornElsewhere.java");
    private static final Path DOCUMENT = Path.of("../shared/DOC.md");

    public static void main(String[] args) throws Exception {
        String code = withoutComments(Files.readString(SOURCE, StandardCharsets.US_ASCII));
        words(code);
        lengths(code);
        library(code);
        face();
        members();
        CHECK.end();
    }

    private static String withoutComments(String code) {
        return code.replaceAll("(?s)/\\*.*?\\*/", "").replaceAll("//[^\n]*", "");
    }

    private static void none(String rule, String code, String pattern) {
        Matcher m = Pattern.compile(pattern).matcher(code);
        CHECK.due(rule + ": " + pattern, m.find() ? 1 : 0, 0);
    }

    private static void words(String code) {
        none("rule 0", code, "\\bpackage\\b");
        none("rule 2", code, "->|::");
        none("rule 5", code, "static\\s*\\{");
        none("rule 6", code, "\\b(throw|throws|try|catch|finally|synchronized|assert)\\b");
        none("rule 6", code, "\\b(hashCode|toString)\\b");
        none("rule 13", code, "\\b(Random|Thread|currentTimeMillis|nanoTime|File|getenv)\\b");
        none("rule 3", code, "\\b(Map|Set|Object|Exception|Optional|Stream)\\b");
    }

    private static void library(String code) {
        Set<String> allowed = Set.of("java.util.Arrays", "java.util.ArrayList", "java.util.List", "java.util.Iterator");
        Matcher imports = Pattern.compile("import\\s+([\\w.]+)\\s*;").matcher(code);
        while (imports.find()) {
            CHECK.due("rule 4: import " + imports.group(1), allowed.contains(imports.group(1)) ? 1 : 0, 1);
        }
        Set<String> calls = Set.of("Arrays.fill", "Arrays.copyOf", "Arrays.copyOfRange", "Math.max", "Math.min",
            "Math.abs", "Integer.bitCount", "System.arraycopy");
        Matcher library = Pattern.compile("\\b(?:Arrays|Math|Integer|Long|System)\\.\\w+").matcher(code);
        while (library.find()) {
            CHECK.due("rule 4: " + library.group(), calls.contains(library.group()) ? 1 : 0, 1);
        }
    }

    /** A method begins with a line that ends with ") {" behind a type and a name. */
    private static void lengths(String code) {
        Pattern head = Pattern.compile("^( {4}| {8})(?! |if|for|while|switch|else|return)[\\w\\[\\] ]+\\(([^()]*)\\) \\{$");
        List<String> lines = List.of(code.split("\n", -1));
        int methods = 0;
        for (int i = 0; i < lines.size(); i++) {
            Matcher m = head.matcher(lines.get(i));
            if (m.matches()) {
                methods++;
                int end = lines.subList(i, lines.size()).indexOf(m.group(1) + "}");
                CHECK.due("rule 11: length of " + lines.get(i), end > 0 && end <= 60 ? 1 : 0, 1);
                CHECK.due("rule 11: parameters of " + lines.get(i), m.group(2).split(",").length <= 7 ? 1 : 0, 1);
            }
        }
        CHECK.due("rule 11: methods were found", methods > 60 ? 1 : 0, 1);
    }

    private static String signature(Class<?> type, String name, Class<?>[] parameters) {
        StringBuilder all = new StringBuilder(type + " " + name);
        for (Class<?> p : parameters) {
            all.append(' ').append(p);
        }
        return all.toString();
    }

    private static void face() throws Exception {
        Set<String> due = new TreeSet<>();
        Matcher told = Pattern.compile("public (int|long) (\\w+)\\(([^)]*)\\);").matcher(Files.readString(DOCUMENT));
        while (told.find()) {
            int many = told.group(3).isEmpty() ? 0 : told.group(3).split(",").length;
            due.add(told.group(1) + " " + told.group(2) + " int".repeat(many));
        }
        CHECK.due("the document's methods", due.size(), 38);
        Set<String> are = new TreeSet<>();
        Set<String> names = new HashSet<>();
        for (Method m : SwornElsewhere.class.getDeclaredMethods()) {
            if (Modifier.isPublic(m.getModifiers())) {
                are.add(signature(m.getReturnType(), m.getName(), m.getParameterTypes()));
                names.add(m.getName());
            }
        }
        CHECK.due("rule 1: the face is " + are, are.equals(due) ? 1 : 0, 1);
        List<Class<?>> all = new ArrayList<>(List.of(SwornElsewhere.class.getDeclaredClasses()));
        all.add(SwornElsewhere.class);
        for (Class<?> c : all) {
            for (Method m : c.getDeclaredMethods()) {
                boolean twice = !Modifier.isPublic(m.getModifiers()) && names.contains(m.getName());
                CHECK.due("rule 1: " + m, twice ? 1 : 0, 0);
            }
        }
    }

    private static void members() {
        Class<?> it = SwornElsewhere.class;
        CHECK.due("rule 1: public and final", it.getModifiers(), Modifier.PUBLIC | Modifier.FINAL);
        int constants = 0;
        for (Field f : it.getDeclaredFields()) {
            boolean constant = Set.of("NONE", "BAD", "NOT", "FULL").contains(f.getName());
            int want = Modifier.PUBLIC | Modifier.STATIC | Modifier.FINAL;
            CHECK.due("rule 1: " + f, constant ? f.getModifiers() : f.getModifiers() & Modifier.PRIVATE,
                constant ? want : Modifier.PRIVATE);
            constants += constant ? 1 : 0;
            boolean loose = Modifier.isStatic(f.getModifiers()) && !Modifier.isFinal(f.getModifiers());
            CHECK.due("rule 5: " + f, loose ? 1 : 0, 0);
        }
        CHECK.due("rule 1: constants", constants, 4);
        for (Method m : it.getDeclaredMethods()) {
            boolean either = Modifier.isPublic(m.getModifiers()) || Modifier.isPrivate(m.getModifiers());
            CHECK.due("rule 1: public or private, " + m, either ? 1 : 0, 1);
        }
        Constructor<?>[] constructors = it.getDeclaredConstructors();
        CHECK.due("rule 1: constructors", constructors.length, 1);
        CHECK.due("rule 1: a public one", constructors[0].getModifiers(), Modifier.PUBLIC);
        CHECK.due("rule 11: classes", it.getDeclaredClasses().length <= 12 ? 1 : 0, 1);
        for (Class<?> c : it.getDeclaredClasses()) {
            CHECK.due("rule 2: " + c, Modifier.isStatic(c.getModifiers()) ? 1 : 0, 1);
            CHECK.due("rule 11: fields of " + c, c.getDeclaredFields().length <= 20 ? 1 : 0, 1);
        }
    }
}
