import java.io.IOException;
import java.lang.reflect.Method;
import java.lang.reflect.Modifier;
import java.nio.file.Files;
import java.nio.file.Path;
import java.util.Arrays;
import java.util.Map;
import java.util.Set;
import java.util.TreeMap;
import java.util.TreeSet;
import java.util.regex.Matcher;
import java.util.regex.Pattern;
import java.util.stream.Collectors;
import java.util.stream.Stream;

/** That README.md shows what is so: its example answers as it says, and it names every call and every test. */
public final class ReadmeTest {
    private static final Checks CHECKS = new Checks("ReadmeTest");
    private static final Pattern SHOWN = Pattern.compile("x\\.(\\w+)\\(([-0-9, ]*)\\); *// (-?\\w+): .*");
    private static final Pattern TEXT = Pattern.compile("String text = \"([^\"]*)\";.*");
    private static final Pattern CALL_ROW = Pattern.compile("(?m)^\\| `(\\w+)\\(([^)]*)\\)` \\|");
    private static final Pattern TEST_ROW = Pattern.compile("(?m)^\\| (\\w+Test) \\|");
    private static final Map<String, Method> FACE = new TreeMap<>();

    public static void main(String[] args) throws IOException, ReflectiveOperationException {
        for (Method method : WillsReadFirst.class.getDeclaredMethods()) {
            if (Modifier.isPublic(method.getModifiers())) {
                FACE.put(method.getName(), method);
            }
        }
        String page = Files.readString(Path.of("README.md"));
        checkExample(between(page, "```java\n", "```"));
        checkConstants(page);
        checkCalls(page);
        checkTests(page);
        CHECKS.finish();
    }

    private static String between(String page, String opening, String closing) {
        int start = page.indexOf(opening) + opening.length();
        return page.substring(start, page.indexOf(closing, start));
    }

    /** Plays the example line by line: a line that it can't play is a fault, so that none is passed over. */
    private static void checkExample(String example) throws ReflectiveOperationException {
        WillsReadFirst x = new WillsReadFirst();
        String text = "";
        int shown = 0;
        for (String line : example.lines().map(String::strip).toList()) {
            Matcher call = SHOWN.matcher(line);
            Matcher told = TEXT.matcher(line);
            if (call.matches()) {
                CHECKS.due("README: " + line, answer(x, call.group(1), call.group(2)), shownAnswer(call.group(3)));
                shown++;
            } else if (told.matches()) {
                text = told.group(1);
            } else if (line.equals("x.write(text.charAt(n));")) {
                Checks.write(x, text);
            } else {
                CHECKS.isTrue("README, a line that is known: " + line,
                        line.startsWith("WillsReadFirst x = new WillsReadFirst();")
                                || line.equals("for (int n = 0; n < text.length(); n++) {") || line.equals("}"));
            }
        }
        CHECKS.isTrue("README shows calls", shown > 0);
    }

    private static int answer(WillsReadFirst x, String name, String numbers) throws ReflectiveOperationException {
        Object[] parts = Stream.of(numbers.split(",")).map(String::strip).filter(part -> !part.isEmpty())
                .map(Integer::valueOf).toArray();
        return (int) FACE.get(name).invoke(x, parts);
    }

    private static int shownAnswer(String shown) throws ReflectiveOperationException {
        return shown.matches("[A-Z]+") ? WillsReadFirst.class.getField(shown).getInt(null) : Integer.parseInt(shown);
    }

    private static void checkConstants(String page) throws ReflectiveOperationException {
        Set<String> named = new TreeSet<>();
        for (Matcher row = Pattern.compile("(?m)^\\| `([A-Z]+)` \\((-\\d)\\) \\|").matcher(page); row.find();) {
            named.add(row.group(1));
            CHECKS.due("README: " + row.group(1), shownAnswer(row.group(1)), Integer.parseInt(row.group(2)));
        }
        CHECKS.isTrue("README names every constant: " + named, named.equals(Set.of("BAD", "NO", "FULL", "NONE")));
    }

    private static void checkCalls(String page) {
        Set<String> named = new TreeSet<>();
        for (Matcher row = CALL_ROW.matcher(page); row.find();) {
            String name = row.group(1);
            CHECKS.isTrue("README names once, and it is a call: " + name, FACE.containsKey(name) && named.add(name));
            int numbers = row.group(2).isEmpty() ? 0 : row.group(2).split(",").length;
            if (FACE.containsKey(name)) {
                CHECKS.due("README: numbers of " + name, numbers, FACE.get(name).getParameterCount());
            }
        }
        CHECKS.isTrue("README names every call: " + named, named.equals(FACE.keySet()));
    }

    private static void checkTests(String page) {
        Set<String> named = new TreeSet<>();
        for (Matcher row = TEST_ROW.matcher(page); row.find();) {
            named.add(row.group(1));
        }
        String[] files = Path.of("src/test/java").toFile().list();
        Set<String> tests = Arrays.stream(files == null ? new String[0] : files)
                .filter(file -> file.endsWith("Test.java")).map(file -> file.replace(".java", ""))
                .collect(Collectors.toCollection(TreeSet::new));
        CHECKS.isTrue("README names every test: " + named + ", there are " + tests, named.equals(tests));
    }
}
