import java.io.File;
import java.nio.charset.StandardCharsets;
import java.nio.file.Files;
import java.nio.file.Path;
import java.util.Set;
import java.util.TreeSet;
import java.util.regex.Matcher;
import java.util.regex.Pattern;

/** The calls of README.md, with the answers that it tells; that it has every call of the face and every test. */
public final class ReadmeTest {
    private static final Check CHECK = new Check();
    private static final Path README = Path.of("README.md");
    private static final File TESTS = new File("src/test/java");
    private static final Pattern MADE = Pattern.compile("SwornElsewhere frost = new SwornElsewhere\\(\\);");
    private static final Pattern TYPED =
        Pattern.compile("for \\(char c : \"([^\"]*)\"\\.toCharArray\\(\\)\\) frost\\.type\\(([01]), c\\);");
    private static final Pattern CALL = Pattern.compile("frost\\.(\\w+)\\(([^)]*)\\); +// (-?\\d+)(:? .*)?");
    // The calls that README.md tells go on with one object.
    private static SwornElsewhere frost = null;
    private static int calls = 0;
    private static final Set<String> TOLD = new TreeSet<>();

    public static void main(String[] args) throws Exception {
        String readme = Files.readString(README, StandardCharsets.UTF_8);
        Matcher block = Pattern.compile("(?s)```java\n(.*?)```").matcher(readme);
        while (block.find()) {
            for (String line : block.group(1).split("\n")) {
                line(line.trim());
            }
        }
        CHECK.due("README.md keeps to the 512 calls of an object: " + calls, calls <= 512 ? 1 : 0, 1);
        for (String name : Words.names()) {
            CHECK.due("README.md tells " + name + "()", TOLD.contains(name) ? 1 : 0, 1);
        }
        tests(readme);
        CHECK.end();
    }

    private static void line(String line) {
        Matcher typed = TYPED.matcher(line);
        Matcher call = CALL.matcher(line);
        if (MADE.matcher(line).matches()) {
            frost = new SwornElsewhere();
        } else if (frost != null && typed.matches()) {
            for (char c : typed.group(1).toCharArray()) {
                frost.type(Integer.parseInt(typed.group(2)), c);
                calls++;
            }
        } else if (frost != null && call.matches()) {
            String words = call.group(1) + " " + numbers(call.group(2));
            CHECK.due("README.md: " + line, Words.call(frost, words), Long.parseLong(call.group(3)));
            TOLD.add(call.group(1));
            calls++;
        } else {
            CHECK.due("README.md has a line that is no call with its answer: " + line, 1, 0);
        }
    }

    private static String numbers(String arguments) {
        return arguments.replace("SwornElsewhere.NONE", "" + SwornElsewhere.NONE).replace("'!'", "33").replace(",", " ");
    }

    private static void tests(String readme) {
        Set<String> are = new TreeSet<>();
        for (String file : TESTS.list()) {
            if (file.endsWith("Test.java")) {
                are.add(file.replace(".java", ""));
            }
        }
        Set<String> told = new TreeSet<>();
        Matcher row = Pattern.compile("(?m)^\\| (\\w+Test) \\|").matcher(readme);
        while (row.find()) {
            told.add(row.group(1));
        }
        CHECK.due("README.md has the tests " + told + " of " + are, told.equals(are) ? 1 : 0, 1);
    }
}
