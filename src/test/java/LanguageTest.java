import java.io.IOException;
import java.nio.file.Files;
import java.nio.file.Path;
import java.util.ArrayList;
import java.util.List;
import java.util.regex.Matcher;
import java.util.regex.Pattern;

/** What of ../shared/LANGUAGE.md can be seen from the letters of the program. */
public final class LanguageTest {
    private static final Checks CHECKS = new Checks("LanguageTest");
    private static final Path SOURCE = Path.of("src/main/java/WillsReadFirst.java");

    public static void main(String[] args) throws IOException {
        String source = Files.readString(SOURCE);
        String code = withoutCommentsAndTexts(source);
        String[] forbidden = {"throw", "throws", "try", "catch", "finally", "synchronized", "assert", "import", "package",
            "System", "Object", "Math\\.\\w+Exact", "equals\\s*\\(\\s*Object", "hashCode", "toString", "native",
            "volatile", "transient", "var", "goto", "protected"};
        for (String word : forbidden) {
            CHECKS.isTrue("no " + word, !Pattern.compile("\\b" + word + "\\b").matcher(code).find());
        }
        CHECKS.isTrue("no lambda, no method reference", !code.contains("->") && !code.contains("::"));
        CHECKS.isTrue("ASCII alone", source.chars().allMatch(c -> c == '\n' || c >= 32 && c < 127));
        CHECKS.isTrue("nothing is joined to a text by +", !Pattern.compile("\"\\s*\\+|\\+\\s*\"").matcher(code).find());
        checkClasses(code);
        checkMethods(code);
        CHECKS.finish();
    }

    private static String withoutCommentsAndTexts(String source) {
        return source.replaceAll("(?s)/\\*.*?\\*/", " ").replaceAll("//[^\n]*", " ")
                .replaceAll("\"[^\"\n]*\"", "\"\"").replaceAll("'[^'\n]'", "' '");
    }

    private static void checkClasses(String code) {
        int classes = 0;
        Matcher m = Pattern.compile("\n( *)([a-z ]*)class \\w+").matcher("\n" + code);
        while (m.find()) {
            classes++;
            String open = m.group(1).isEmpty() ? "public final " : "private static final ";
            CHECKS.isTrue("class as it may be:" + m.group(), m.group(2).equals(open));
        }
        CHECKS.isTrue("twelve classes at most: " + classes, classes <= 12);
    }

    private static void checkMethods(String code) {
        List<String> open = new ArrayList<>();
        List<String> closed = new ArrayList<>();
        String[] lines = code.split("\n");
        Pattern head = Pattern.compile("^ {4,8}((?:public |private |static )*)(?:[\\w\\[\\]]+ )(\\w+)\\(([^)]*)\\) \\{$");
        for (int n = 0; n < lines.length; n++) {
            Matcher m = head.matcher(lines[n]);
            if (!m.find() || m.group(2).equals("if")) {
                continue;
            }
            (m.group(1).startsWith("public") ? open : closed).add(m.group(2));
            CHECKS.isTrue("seven parameters at most: " + m.group(2), m.group(3).split(",").length <= 7);
            String end = lines[n].replaceAll("\\S.*", "") + "}";
            int last = n;
            while (last < lines.length - 1 && !lines[last].equals(end)) {
                last++;
            }
            CHECKS.isTrue("sixty lines at most: " + m.group(2), last - n < 60);
        }
        CHECKS.due("public methods", open.size(), 31);
        CHECKS.isTrue("methods inside are found", closed.size() > 20);
        for (String name : closed) {
            CHECKS.isTrue("no name of a public method: " + name, !open.contains(name));
        }
    }
}
