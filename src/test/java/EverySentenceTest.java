import java.io.IOException;
import java.lang.reflect.Method;
import java.util.ArrayList;
import java.util.List;
import java.util.Map;

/** Each test of a sentence quotes the document's own words, and no words of the terms and promises are without a test. */
public final class EverySentenceTest {
    private static int wrong = 0;

    private static void tell(String what) {
        wrong++;
        System.out.println(what);
    }

    private static List<Says> quotes() {
        List<Says> all = new ArrayList<>();
        for (Class<?> tests : List.of(TermsSentencesTest.class, PromiseSentencesTest.class)) {
            for (Method test : Sentences.of(tests).values()) {
                all.add(test.getAnnotation(Says.class));
            }
        }
        return all;
    }

    /** Marks the words that a quote has in a part; a quote must stand there once, so that it is clear what it means. */
    private static void mark(Says quote, String part, boolean[] quoted) {
        int at = part.indexOf(quote.text());
        if (at < 0 || part.indexOf(quote.text(), at + 1) >= 0) {
            tell(quote.where() + " does not say once: " + quote.text());
            return;
        }
        for (int i = at; i < at + quote.text().length(); i++) {
            quoted[i] = true;
        }
    }

    private static void findWordsWithoutTest(String where, String part, boolean[] quoted) {
        StringBuilder missing = new StringBuilder();
        for (int i = Document.wordsBegin(where, part); i <= part.length(); i++) {
            boolean open = i < part.length() && !quoted[i];
            if (open) {
                missing.append(part.charAt(i));
            } else {
                String words = missing.toString().replace("```text", "").replace("The constants:", "");
                if (words.chars().anyMatch(Character::isLetterOrDigit)) {
                    tell(where + " has words without a test: " + words.strip());
                }
                missing.setLength(0);
            }
        }
    }

    public static void main(String[] args) throws IOException {
        List<Says> quotes = quotes();
        Map<String, String> parts = Document.parts();
        int asked = 0;
        for (Map.Entry<String, String> part : parts.entrySet()) {
            boolean[] quoted = new boolean[part.getValue().length()];
            for (Says quote : quotes) {
                if (quote.where().equals(part.getKey())) {
                    mark(quote, part.getValue(), quoted);
                    asked++;
                }
            }
            if (part.getKey().startsWith("Terms ") || part.getKey().startsWith("Promise ")) {
                findWordsWithoutTest(part.getKey(), part.getValue(), quoted);
            }
        }
        if (asked != quotes.size()) {
            tell((quotes.size() - asked) + " quotes are of no part of the document");
        }
        for (int promise = 1; promise <= 38; promise++) {
            if (!parts.containsKey("Promise " + promise)) {
                tell("the document has no promise " + promise);
            }
        }
        System.out.println(quotes.size() + " sentences quoted, " + wrong + " faults");
        if (wrong != 0) {
            System.exit(1);
        }
    }
}
