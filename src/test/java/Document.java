import java.io.IOException;
import java.nio.charset.StandardCharsets;
import java.nio.file.Files;
import java.nio.file.Path;
import java.util.regex.Matcher;
import java.util.regex.Pattern;

/**
 * The words of the document that promise something: section 0 is the parts 1 to 4 and the terms, sections 1
 * to 39 are the promises. Keeps which of them a test has quoted.
 */
final class Document {
    static final int SECTIONS = 40;
    private final String[] text = new String[SECTIONS];
    private final boolean[][] quoted = new boolean[SECTIONS][];

    Document(Path path) throws IOException {
        String all = Files.readString(path, StandardCharsets.UTF_8);
        text[0] = terms(all);
        for (int n = 1; n < SECTIONS; n++) {
            Matcher m = Pattern.compile("(?s)\n## Promise " + n + ": [^\n]*\n\n`[^`]*`: (.*?)\n(\n## |$)").matcher(all);
            text[n] = m.find() ? plain(m.group(1)) : "";
        }
        for (int n = 0; n < SECTIONS; n++) {
            quoted[n] = new boolean[text[n].length()];
        }
    }

    private static String terms(String all) {
        int from = all.indexOf("======== 1 ");
        int to = all.indexOf("\n## Promise 1:");
        if (from < 0 || to < from) {
            return "";
        }
        return plain(all.substring(from, to).replaceAll("(?s)```java.*?```", " ").replaceAll("(?m)^```\\w*$", " ")
            .replaceAll("(?m)^## .*$", " ").replaceAll("(?m)^Ahead of the calls .*$", " ")
            .replaceAll("======== \\d", " "));
    }

    private static String plain(String words) {
        return words.replaceAll("\\s+", " ").trim();
    }

    /** Whether the section has these words; they are then quoted. */
    boolean quote(int section, String words) {
        int at = text[section].indexOf(plain(words));
        for (int i = at; at >= 0 && i < at + plain(words).length(); i++) {
            quoted[section][i] = true;
        }
        return at >= 0 && !words.isBlank();
    }

    /** What no test has quoted, without the signs between the words. */
    String left(int section) {
        StringBuilder left = new StringBuilder();
        for (int i = 0; i < text[section].length(); i++) {
            left.append(quoted[section][i] ? ' ' : text[section].charAt(i));
        }
        return plain(left.toString().replaceAll("[^A-Za-z0-9 ]", " "));
    }

    boolean empty(int section) {
        return text[section].isEmpty();
    }
}
