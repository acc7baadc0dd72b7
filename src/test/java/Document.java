import java.io.IOException;
import java.nio.file.Files;
import java.nio.file.Path;
import java.util.ArrayList;
import java.util.List;
import java.util.Map;
import java.util.Set;
import java.util.TreeMap;
import java.util.TreeSet;
import java.util.regex.Matcher;
import java.util.regex.Pattern;

/** The document's sentences: a test says which one it holds the class to. */
final class Document {
    /** What a sentence asks of the class. */
    interface Test {
        void run();
    }

    private static final Path FILE = Path.of("../shared/DOC.md");
    private static final Pattern REFUSAL = Pattern.compile("-\\d+");
    private static final Map<String, String> PARTS = read();
    private static final Map<String, List<String>> SAID = new TreeMap<>();

    private Document() {
    }

    /** The part that a line begins, or null. */
    private static String partOf(String line) {
        if (line.startsWith("## ")) {
            return line.substring(3).replaceAll("^(Promise \\d+):.*", "$1");
        }
        if (line.startsWith("======== ")) {
            return "Terms " + line.charAt(9);
        }
        return line.startsWith("Answers of several refusals") ? "Answers" : null;
    }

    private static Map<String, String> read() {
        Map<String, StringBuilder> parts = new TreeMap<>();
        String part = "title";
        try {
            for (String line : Files.readAllLines(FILE)) {
                part = partOf(line) == null ? part : partOf(line);
                parts.computeIfAbsent(part, name -> new StringBuilder()).append(line).append(' ');
            }
        } catch (IOException e) {
            throw new IllegalStateException(e);
        }
        Map<String, String> texts = new TreeMap<>();
        for (Map.Entry<String, StringBuilder> one : parts.entrySet()) {
            // A promise's first words are its call, which says nothing of refusals.
            String text = one.getValue().toString().replaceFirst("^## Promise[^`]*`[^`]*`", "");
            texts.put(one.getKey(), text.replaceAll("\\s+", " "));
        }
        return texts;
    }

    /** A part of the document says these words; what they say has this test. */
    static void says(String part, String words, Test test) {
        Check.isTrue(part + " of the document says: " + words, PARTS.getOrDefault(part, "").contains(words));
        SAID.computeIfAbsent(part, name -> new ArrayList<>()).add(words);
        int asked = Check.asked();
        int wrong = Check.wrong();
        test.run();
        Check.isTrue("a test for " + part + ": " + words, Check.asked() > asked);
        if (Check.wrong() > wrong) {
            System.out.println("    so this does not hold: " + part + ": " + words);
        }
    }

    private static Set<String> refusalsIn(String text) {
        Set<String> refusals = new TreeSet<>();
        Matcher found = REFUSAL.matcher(text);
        while (found.find()) {
            refusals.add(found.group());
        }
        return refusals;
    }

    /** Each of these promises must have been said, and each refusal that it names. */
    static void finish(int first, int last) {
        for (int k = first; k <= last; k++) {
            String part = "Promise " + k;
            List<String> said = SAID.getOrDefault(part, List.of());
            Check.isTrue(part + " has a test", !said.isEmpty());
            Set<String> untold = refusalsIn(PARTS.getOrDefault(part, ""));
            untold.removeAll(refusalsIn(String.join(" ; ", said)));
            Check.isTrue(part + ": no test for " + untold, untold.isEmpty());
        }
        Check.finish();
    }
}
