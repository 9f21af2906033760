import java.io.IOException;
import java.nio.file.Files;
import java.nio.file.Path;
import java.util.Map;
import java.util.TreeMap;
import java.util.regex.Matcher;
import java.util.regex.Pattern;

/** The document's words by where they stand: "What it is", "Terms I" .. "Terms IV", "Promise 1" .. "Promise 38". */
public final class Document {
    private static final Path PLACE = Path.of("../shared/DOC.md");
    private static final Pattern HEAD = Pattern.compile("(?m)^## (Promise \\d+|.*?)(?:: .*)?$");
    private static final Pattern TERM = Pattern.compile("(?m)^(I|II|III|IV)\\. ");

    private Document() {
    }

    public static Map<String, String> parts() throws IOException {
        Map<String, String> parts = new TreeMap<>();
        cut(Files.readString(PLACE), HEAD, "", parts);
        cut(parts.remove("Terms"), TERM, "Terms ", parts);
        return parts;
    }

    /** Each part goes from behind its head to the next head. */
    private static void cut(String text, Pattern head, String prefix, Map<String, String> parts) {
        Matcher m = head.matcher(text);
        String name = null;
        int from = 0;
        while (m.find()) {
            if (name != null) {
                parts.put(name, text.substring(from, m.start()));
            }
            name = prefix + m.group(1);
            from = m.end();
        }
        if (name != null) {
            parts.put(name, text.substring(from));
        }
    }

    /** What a promise says of its method stands behind the method's head. */
    public static int wordsBegin(String where, String part) {
        return where.startsWith("Promise ") ? part.indexOf("`: ") + 3 : 0;
    }
}
