import java.io.IOException;
import java.nio.file.Files;
import java.nio.file.Path;
import java.util.ArrayList;
import java.util.Arrays;
import java.util.List;
import java.util.regex.Matcher;
import java.util.regex.Pattern;
import java.util.stream.Stream;

/**
 * That the tests leave out no words of the document: what they quote behind CHECKS.promise(..) stands in the document,
 * and together the quotes hold every word of the terms and of the promises.
 */
public final class DocTest {
    private static final Checks CHECKS = new Checks("DocTest");
    private static final Path DOCUMENT = Path.of("../shared/DOC.md");
    private static final Path TESTS = Path.of("src/test/java");
    private static final int PROMISES = 32;
    private static final Pattern QUOTE = Pattern.compile(
            "\\.promise\\(\\s*(\\d+),\\s*((?:\"[^\"]*\"\\s*\\+?\\s*)+)\\);");

    private final String face;
    private final Part terms;
    private final List<Part> promises = new ArrayList<>();

    /** Some text of the document, and which of its letters are quoted. */
    private static final class Part {
        final String text;
        final boolean[] quoted;

        Part(String text) {
            this.text = text;
            this.quoted = new boolean[text.length()];
        }

        /** Of words that stand there twice nobody could tell which are meant: such a quote is none. */
        boolean mark(String quote) {
            int at = text.indexOf(quote);
            if (at < 0 || text.indexOf(quote, at + 1) >= 0) {
                return false;
            }
            Arrays.fill(quoted, at, at + quote.length(), true);
            return true;
        }

        /** What is not quoted, but for the signs between words. */
        String rest() {
            StringBuilder rest = new StringBuilder();
            for (int n = 0; n < quoted.length; n++) {
                rest.append(quoted[n] ? ' ' : text.charAt(n));
            }
            return rest.toString().replaceAll("[^A-Za-z0-9]+", " ").strip();
        }
    }

    public static void main(String[] args) throws IOException {
        if (!Files.exists(DOCUMENT)) {
            System.out.println("DocTest: no document at " + DOCUMENT + ", nothing checked");
            return;
        }
        new DocTest(Files.readString(DOCUMENT)).check();
        CHECKS.finish();
    }

    private DocTest(String document) {
        int terms = document.indexOf("## Terms");
        int first = document.indexOf("## Promise 1:");
        int end = document.indexOf("## Not promised");
        face = words(document.substring(0, terms));
        this.terms = new Part(words(document.substring(terms, first).replaceAll("(?m)^(## Terms|```.*|Ahead of .*)$", "")
                .replaceAll("(?m)^======== \\d ", "")));
        for (String promise : document.substring(first, end).split("(?m)^## Promise \\d+: \\w.*$")) {
            promises.add(new Part(words(promise.replaceAll("`[^`]*`: ", ""))));
        }
    }

    private static String words(String text) {
        return text.replaceAll("\\s+", " ").strip();
    }

    private void check() throws IOException {
        CHECKS.due("promises of the document", promises.size() - 1, PROMISES);
        boolean[] held = new boolean[PROMISES + 1];
        int quotes = 0;
        for (Matcher m = QUOTE.matcher(tests()); m.find(); quotes++) {
            int number = Integer.parseInt(m.group(1));
            String quote = m.group(2).replaceAll("\"\\s*\\+\\s*\"", "").strip().replaceAll("^\"|\"$", "");
            CHECKS.isTrue("quoted for promise " + number + ": " + quote, stands(number, quote));
            held[number] = true;
        }
        CHECKS.due("quotes read", quotes, tests().split("CHECKS\\.promise\\(|checks\\.promise\\(").length - 1);
        for (int number = 1; number <= PROMISES; number++) {
            CHECKS.isTrue("promise " + number + " is held to something", held[number]);
            CHECKS.isTrue("not quoted of promise " + number + ": " + promises.get(number).rest(),
                    promises.get(number).rest().isEmpty());
        }
        CHECKS.isTrue("not quoted of the terms: " + terms.rest(), terms.rest().isEmpty());
    }

    private boolean stands(int number, String quote) {
        return number >= 1 && number <= PROMISES
                && (promises.get(number).mark(quote) || terms.mark(quote) || face.contains(quote));
    }

    private static String tests() throws IOException {
        StringBuilder all = new StringBuilder();
        try (Stream<Path> files = Files.list(TESTS)) {
            for (Path file : files.sorted().toList()) {
                if (!file.endsWith("DocTest.java")) {
                    all.append(Files.readString(file));
                }
            }
        }
        return all.toString();
    }
}
