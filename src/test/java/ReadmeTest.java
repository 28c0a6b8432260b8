import java.io.IOException;
import java.lang.reflect.Method;
import java.nio.file.Files;
import java.nio.file.Path;
import java.util.ArrayList;
import java.util.List;
import java.util.Map;
import java.util.Set;
import java.util.TreeSet;
import java.util.regex.Matcher;
import java.util.regex.Pattern;

/** README.md: each answer that it shows is the class's, and each test is named there. */
public final class ReadmeTest {
    private static final Pattern TEXT = Pattern.compile("String text = \"(.*)\";");
    private static final Pattern CALL = Pattern.compile(
        "x\\.(\\w+)\\((.*)\\); +// (-?[0-9]+|true|false|NONE|UNKNOWN|OUTSIDE|STATE)\\b.*");
    private static final Pattern TEST_NAME = Pattern.compile("`(\\w+Test)`");
    /** The loop that puts the text in is done here by hand, so it must stand there as it is here. */
    private static final List<String> LOOP = List.of("for (int i = 0; i < text.length(); i++) {",
        "x.sign(text.charAt(i)); // true as long as there is room: for 300 characters", "}");
    private static final Map<String, Long> WORDS = Map.of("true", 1L, "false", 0L,
        "NONE", (long) MachineText.NONE, "UNKNOWN", (long) MachineText.UNKNOWN,
        "OUTSIDE", (long) MachineText.OUTSIDE, "STATE", (long) MachineText.STATE);

    private final Due due = new Due();
    private final Set<String> shown = new TreeSet<>();
    private MachineText x = null;
    private String text = "";

    public static void main(String[] args) throws IOException, ReflectiveOperationException {
        List<String> readme = Files.readAllLines(Path.of("README.md"));
        ReadmeTest test = new ReadmeTest();
        for (String line : javaLines(readme)) {
            test.oneLine(line);
        }
        test.due.that("calls that are shown", String.join(" ", test.shown),
            "at check fault gap part print reach read sign suffices time");
        test.testsAreNamed(String.join("\n", readme));
        test.due.that(".ci/run can be executed", Files.isExecutable(Path.of(".ci/run")), true);
        test.due.end();
    }

    private static List<String> javaLines(List<String> readme) {
        List<String> lines = new ArrayList<>();
        boolean inside = false;
        for (String line : readme) {
            if (line.startsWith("```")) {
                inside = line.equals("```java");
            } else if (inside && !line.isBlank()) {
                lines.add(line.strip());
            }
        }
        return lines;
    }

    private void oneLine(String line) throws ReflectiveOperationException {
        Matcher textLine = TEXT.matcher(line);
        Matcher call = CALL.matcher(line);
        if (line.equals("MachineText x = new MachineText();")) {
            x = new MachineText();
        } else if (textLine.matches()) {
            text = textLine.group(1);
        } else if (line.equals(LOOP.get(0))) {
            due.that("sign of each character", Due.signAll(x, text), true);
        } else if (call.matches() && !LOOP.contains(line)) {
            shown.add(call.group(1));
            due.that(line, answer(call.group(1), call.group(2)), number(call.group(3)));
        } else {
            due.that("a line that this test knows: " + line, LOOP.contains(line), true);
        }
    }

    private long answer(String name, String arguments) throws ReflectiveOperationException {
        String[] written = arguments.isEmpty() ? new String[0] : arguments.split(", ");
        for (Method method : MachineText.class.getMethods()) {
            if (method.getName().equals(name) && method.getParameterCount() == written.length) {
                Object[] given = new Object[written.length];
                for (int i = 0; i < given.length; i++) {
                    long value = argument(written[i]);
                    given[i] = method.getParameterTypes()[i] == int.class ? (Object) (int) value : (Object) value;
                }
                Object got = method.invoke(x, given);
                return got instanceof Boolean ? ((Boolean) got ? 1 : 0) : ((Number) got).longValue();
            }
        }
        throw new IllegalStateException("no such call: " + name);
    }

    private static long argument(String written) {
        return written.startsWith("'") ? written.charAt(1) : Long.parseLong(written);
    }

    private static long number(String written) {
        return WORDS.containsKey(written) ? WORDS.get(written) : Long.parseLong(written);
    }

    private void testsAreNamed(String readme) throws IOException {
        Set<String> named = new TreeSet<>();
        Matcher names = TEST_NAME.matcher(readme);
        while (names.find()) {
            named.add(names.group(1));
        }
        Set<String> there = new TreeSet<>();
        try (var files = Files.list(Path.of("src/test/java"))) {
            files.map(file -> file.getFileName().toString())
                .filter(file -> file.endsWith("Test.java") && !file.startsWith("Promise"))
                .forEach(file -> there.add(file.replace(".java", "")));
        }
        due.that("tests that README.md names", named.toString(), there.toString());
    }
}
