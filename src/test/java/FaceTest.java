import java.io.IOException;
import java.lang.reflect.Constructor;
import java.lang.reflect.Field;
import java.lang.reflect.Method;
import java.lang.reflect.Modifier;
import java.nio.file.Files;
import java.nio.file.Path;
import java.util.ArrayList;
import java.util.List;
import java.util.Set;
import java.util.TreeSet;

/** The public face is the document's and no more, and the source keeps to LANGUAGE.md where that can be read off. */
public final class FaceTest {
    private static final Path DOCUMENT = Path.of("../shared/DOC.md");
    private static final Path SOURCE = Path.of("src/main/java/CandleBar.java");

    private FaceTest() {
    }

    public static void main(String[] args) throws IOException {
        face();
        members();
        classesInside();
        words();
        lengths();
        Check.finish();
    }

    /** The lines of the document's face, without names of parameters and exceptions. */
    private static Set<String> facesOfDocument() throws IOException {
        Set<String> faces = new TreeSet<>();
        for (String line : Files.readAllLines(DOCUMENT)) {
            if (line.startsWith("    public ") && line.endsWith(";")) {
                String types = line.strip().replaceAll(" throws [^;]*", "").replaceAll("(int|long|boolean) \\w+(?=[,)])", "$1");
                faces.add(types.replace(";", "").replace(", ", ","));
            }
        }
        return faces;
    }

    private static String typesOf(Class<?>[] types) {
        List<String> names = new ArrayList<>();
        for (Class<?> type : types) {
            names.add(type.getName());
        }
        return "(" + String.join(",", names) + ")";
    }

    private static void face() throws IOException {
        Set<String> faces = new TreeSet<>();
        for (Method method : CandleBar.class.getDeclaredMethods()) {
            if (!Modifier.isPrivate(method.getModifiers())) {
                faces.add("public " + method.getReturnType().getName() + " " + method.getName() + typesOf(method.getParameterTypes()));
                Check.isTrue(method + " is public and not static", method.getModifiers() == Modifier.PUBLIC);
            }
        }
        for (Constructor<?> made : CandleBar.class.getDeclaredConstructors()) {
            faces.add("public CandleBar" + typesOf(made.getParameterTypes()));
            Check.isTrue(made + " is public", made.getModifiers() == Modifier.PUBLIC);
        }
        Set<String> want = facesOfDocument();
        Check.due("members of the document's face", want.size(), 44);
        Check.isTrue("the face " + faces + " is the document's " + want, faces.equals(want));
        Check.isTrue("the class is public and final", CandleBar.class.getModifiers() == (Modifier.PUBLIC | Modifier.FINAL));
    }

    private static void members() {
        for (Field field : CandleBar.class.getDeclaredFields()) {
            Check.isTrue(field + " is private", Modifier.isPrivate(field.getModifiers()));
        }
        Set<String> names = new TreeSet<>();
        for (Method method : CandleBar.class.getMethods()) {
            names.add(method.getName());
        }
        List<Class<?>> all = new ArrayList<>(List.of(CandleBar.class.getDeclaredClasses()));
        all.add(CandleBar.class);
        for (Class<?> one : all) {
            int own = 0;
            for (Field field : one.getDeclaredFields()) {
                boolean still = Modifier.isStatic(field.getModifiers());
                Check.isTrue(field + " is final if static", !still || Modifier.isFinal(field.getModifiers()));
                own += still ? 0 : 1;
            }
            Check.isTrue(one + " has some twenty fields at most", own <= 20);
            for (Method method : one.getDeclaredMethods()) {
                boolean isFace = one == CandleBar.class && Modifier.isPublic(method.getModifiers());
                Check.isTrue(method + " bears its own name", isFace || !names.contains(method.getName()));
                Check.isTrue(method + " has seven parameters at most", method.getParameterCount() <= 7);
            }
        }
    }

    private static void classesInside() {
        Class<?>[] inside = CandleBar.class.getDeclaredClasses();
        Check.isTrue("some twelve classes at most", inside.length + 1 <= 12);
        for (Class<?> one : inside) {
            int modifiers = one.getModifiers();
            Check.isTrue(one + " is static and not public", Modifier.isStatic(modifiers)
                    && !Modifier.isPublic(modifiers) && !Modifier.isProtected(modifiers));
        }
    }

    /** Words that LANGUAGE.md leaves out, and catches of what the machine throws. */
    private static void words() throws IOException {
        String source = Files.readString(SOURCE);
        String[] left = {
            "import ", "package ", "->", "::", "finally", "synchronized", "assert ", "Exact", "double", "float", "String ",
            "ArithmeticException", "NullPointerException", "OutOfBounds", "ClassCast", "NegativeArraySize", "ArrayStore",
            "RuntimeException", "Throwable", "(Exception ", "getMessage", "hashCode", "equals", "toString", "instanceof", "while",
        };
        for (String word : left) {
            Check.isTrue("the source is without " + word, !source.contains(word));
        }
        for (int i = 0; i < source.length(); i++) {
            if (source.charAt(i) > 126) {
                Check.due("a sign that is not plain at " + i, source.charAt(i), 'a');
            }
        }
    }

    /** A method begins at a line that ends in ") {" (or its throws) and ends at the brace of its own indent. */
    private static void lengths() throws IOException {
        List<String> lines = Files.readAllLines(SOURCE);
        for (int k = 0; k < lines.size(); k++) {
            String line = lines.get(k);
            String indent = line.substring(0, line.length() - line.stripLeading().length());
            boolean begins = (indent.length() == 4 || indent.length() == 8) && line.endsWith("{") && line.contains("(");
            int end = k;
            while (begins && end < lines.size() && !lines.get(end).equals(indent + "}")) {
                end++;
            }
            Check.isTrue("line " + (k + 1) + " begins a short method", end - k < 60);
            Check.isTrue("line " + (k + 1) + " is short", line.length() <= 110);
        }
    }
}
