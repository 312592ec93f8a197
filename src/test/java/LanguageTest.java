import java.io.IOException;
import java.nio.file.Files;
import java.nio.file.Path;
import java.util.HashSet;
import java.util.Set;
import java.util.regex.Matcher;
import java.util.regex.Pattern;

/** What of ../shared/LANGUAGE.md can be seen from the letters of the program; the numbers are those of its rules. */
public final class LanguageTest {
    private static final Checks CHECKS = new Checks("LanguageTest");
    private static final Path SOURCE = Path.of("src/main/java/WillsReadFirst.java");
    private static final Pattern METHOD = Pattern.compile(
            "((?:\\b(?:public|private|static|final)\\s+)*)\\b([\\w<>]+(?:\\[\\])*)\\s+(\\w+)\\s*\\(([^()]*)\\)\\s*\\{");
    private static final Set<String> NO_TYPES = Set.of("new", "else", "return", "record", "case");

    public static void main(String[] args) throws IOException {
        String code = bare(Files.readString(SOURCE));
        checkWords(code);
        checkLambdas(code);
        checkClasses(code);
        checkMethods(code);
        CHECKS.finish();
    }

    /** Without comments and without what stands in texts and letters. */
    private static String bare(String source) {
        return source.replaceAll("(?s)/\\*.*?\\*/", " ").replaceAll("//[^\n]*", " ")
                .replaceAll("\"(\\\\.|[^\"\\\\\n])*\"", "\"\"").replaceAll("'(\\\\.[^']*|[^'\\\\\n])'", "' '");
    }

    private static boolean has(String code, String pattern) {
        return Pattern.compile(pattern).matcher(code).find();
    }

    private static void checkWords(String code) {
        String[] words = {"throw", "throws", "try", "catch", "finally", "synchronized", "assert", "package", "protected",
            "native", "volatile", "Thread", "Random", "Class", "Object", "\\w+Exact"};
        for (String word : words) {
            CHECKS.isTrue("rules 1, 4, 6, 13: no " + word, !has(code, "\\b" + word + "\\b"));
        }
        CHECKS.isTrue("rule 4: nothing of System but arraycopy", !has(code, "\\bSystem\\s*\\.\\s*(?!arraycopy\\b)"));
        CHECKS.isTrue("rule 4: nothing imported but lists, arrays and iterators",
                !has(code, "\\bimport\\s+(?!java\\.util\\.(ArrayList|List|Arrays|Iterator);)"));
        CHECKS.isTrue("rule 5: static fields are final", !has(code, "(?m)^\\s*(private )?static (?!final)[^(]*[=;]"));
        CHECKS.isTrue("rule 6: no equals, hashCode or toString of its own",
                !has(code, "\\b(boolean equals|int hashCode|String toString)\\s*\\("));
        CHECKS.isTrue("rule 10: nothing is joined to a text by +", !has(code, "\"\"\\s*\\+|\\+\\s*\"\""));
    }

    private static void checkLambdas(String code) {
        CHECKS.isTrue("rule 2: no method reference", !code.contains("::"));
        for (String line : code.split("\n")) {
            CHECKS.isTrue("rule 2: no lambda in " + line, !line.contains("->") || has(line, "^\\s*(case|default)\\b"));
        }
    }

    private static void checkClasses(String code) {
        int classes = 0;
        Matcher m = Pattern.compile("([a-z ]*)\\b(class|enum|record|interface)\\s+(\\w+)").matcher(code);
        for (; m.find(); classes++) {
            boolean isFace = m.group(3).equals("WillsReadFirst");
            CHECKS.isTrue("rule 1: only the face is public: " + m.group(3), m.group(1).contains("public") == isFace);
            CHECKS.isTrue("rule 2: static: " + m.group(3),
                    isFace || !m.group(2).equals("class") || m.group(1).contains("static"));
        }
        CHECKS.isTrue("rule 11: some twelve classes at most: " + classes, classes >= 1 && classes <= 12);
    }

    private static void checkMethods(String code) {
        Set<String> open = new HashSet<>();
        Set<String> closed = new HashSet<>();
        for (Matcher m = METHOD.matcher(code); m.find();) {
            if (NO_TYPES.contains(m.group(2))) {
                continue;
            }
            (m.group(1).contains("public") ? open : closed).add(m.group(3));
            CHECKS.isTrue("rule 11: seven parameters at most: " + m.group(3), m.group(4).split(",").length <= 7);
            int lines = (int) code.substring(m.start(), end(code, m.end())).lines().count();
            CHECKS.isTrue("rule 11: some sixty lines at most: " + m.group(3) + " has " + lines, lines <= 60);
        }
        CHECKS.isTrue("the methods of the face are found", open.contains("write") && open.contains("count"));
        for (String name : closed) {
            CHECKS.isTrue("rule 1: no name of a public method: " + name, !open.contains(name));
        }
    }

    /** Behind the } that closes what is open at this place. */
    private static int end(String code, int place) {
        int open = 1;
        int at = place;
        for (; at < code.length() && open > 0; at++) {
            open += code.charAt(at) == '{' ? 1 : code.charAt(at) == '}' ? -1 : 0;
        }
        return at;
    }
}
