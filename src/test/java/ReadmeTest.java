import java.io.IOException;
import java.lang.reflect.InvocationTargetException;
import java.lang.reflect.Method;
import java.lang.reflect.Modifier;
import java.nio.file.Files;
import java.nio.file.Path;
import java.util.Arrays;
import java.util.List;
import java.util.Map;
import java.util.TreeMap;
import java.util.regex.Matcher;
import java.util.regex.Pattern;
import java.util.stream.Stream;

/** README.md says what is so: its examples are played call by call, and it names every call and every test. */
public final class ReadmeTest {
    private static final Path README = Path.of("README.md");
    private static final Path TESTS = Path.of("src/test/java");
    private static final String BEGINNING = "CandleBar bar = new CandleBar();";
    /** A type and a name or neither, the call, what is given to it, the answer or the exception's name. */
    private static final Pattern CALL = Pattern.compile(
            "(?:(int|long) (\\w+) = )?bar\\.(\\w+)\\(([^()]*)\\);\\s*// (?:throws (\\w+)|(-?\\d+)(?:: .+)?)");

    private static final Map<String, Method> CALLS = new TreeMap<>();
    private static final Map<String, Integer> NAMES = new TreeMap<>();
    private static CandleBar bar;

    private ReadmeTest() {
    }

    public static void main(String[] args) throws IOException, IllegalAccessException {
        for (Method method : CandleBar.class.getDeclaredMethods()) {
            if (Modifier.isPublic(method.getModifiers())) {
                CALLS.put(method.getName(), method);
            }
        }
        List<String> lines = Files.readAllLines(README);
        examples(lines);
        namesAll(lines);
        Check.finish();
    }

    private static void examples(List<String> lines) throws IllegalAccessException {
        boolean isExample = false;
        int played = 0;
        for (String line : lines) {
            if (line.startsWith("```")) {
                isExample = line.equals("```java");
            } else if (isExample) {
                play(line);
                played++;
            }
        }
        Check.isTrue("there are examples", played > 20 && bar != null);
    }

    private static void play(String line) throws IllegalAccessException {
        if (line.equals(BEGINNING)) {
            bar = new CandleBar();
            NAMES.clear();
            return;
        }
        Matcher read = CALL.matcher(line);
        boolean isCall = read.matches() && bar != null && CALLS.containsKey(read.group(3));
        Check.isTrue("an example's line is a call of the face, and its answer: " + line, isCall);
        if (!isCall) {
            return;
        }
        Method method = CALLS.get(read.group(3));
        String[] written = read.group(4).isEmpty() ? new String[0] : read.group(4).split(", ");
        Check.due(line + ": how much is given", written.length, method.getParameterCount());
        String got = answer(method, Arrays.stream(written).map(ReadmeTest::valueOf).toArray());
        String want = read.group(5) == null ? read.group(6) : read.group(5);
        Check.isTrue(line + " answered " + got, got.equals(want));
        if (read.group(2) != null) {
            Check.isTrue(line + ": its type", read.group(1).equals(method.getReturnType().getName()));
            Check.isTrue(line + ": a name is new", NAMES.put(read.group(2), Integer.parseInt(got)) == null);
        }
    }

    private static Object valueOf(String written) {
        if (written.equals("true") || written.equals("false")) {
            return Boolean.valueOf(written);
        }
        if (written.matches("'.'")) {
            return (int) written.charAt(1);
        }
        return NAMES.containsKey(written) ? NAMES.get(written) : Integer.valueOf(written);
    }

    private static String answer(Method method, Object[] given) throws IllegalAccessException {
        try {
            return String.valueOf(method.invoke(bar, given));
        } catch (InvocationTargetException e) {
            return e.getCause().getClass().getSimpleName();
        }
    }

    private static void namesAll(List<String> lines) throws IOException {
        String text = String.join("\n", lines);
        for (String name : CALLS.keySet()) {
            Check.isTrue("README.md names the call " + name, text.contains("`" + name + "`"));
        }
        try (Stream<Path> files = Files.list(TESTS)) {
            for (Path file : files.sorted().toList()) {
                String name = file.getFileName().toString().replace(".java", "");
                boolean isNamed = Pattern.compile("\\b" + name + "\\b").matcher(text).find();
                Check.isTrue("README.md names the test " + name, !name.endsWith("Test") || isNamed);
            }
        }
        for (String told : new String[] {".ci/run", "src/main/java/CandleBar.java", "../shared/tests"}) {
            Check.isTrue("README.md tells of " + told, text.contains(told));
        }
    }
}
