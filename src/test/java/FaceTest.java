import java.io.IOException;
import java.lang.reflect.Constructor;
import java.lang.reflect.Executable;
import java.lang.reflect.Field;
import java.lang.reflect.Method;
import java.lang.reflect.Modifier;
import java.nio.file.Files;
import java.nio.file.Path;
import java.util.Arrays;
import java.util.Set;
import java.util.TreeSet;
import java.util.stream.Collectors;

/** All promises: the class shows what the document's section "The public face" shows, and nothing else. */
public final class FaceTest {
    private static final Path DOCUMENT = Path.of("../shared/DOC.md");

    public static void main(String[] args) throws IOException, IllegalAccessException {
        Due due = new Due("FaceTest");
        Set<String> want = faceOfTheDocument();
        Set<String> got = faceOfTheClass();
        due.same("lines of the document's face", want.size(), 20);
        for (String line : want) {
            if (!got.contains(line)) {
                due.fault("the class does not show: " + line);
            }
        }
        for (String line : got) {
            if (!want.contains(line)) {
                due.fault("the document does not show: " + line);
            }
        }
        due.end();
    }

    private static Set<String> faceOfTheDocument() throws IOException {
        String text = Files.readString(DOCUMENT);
        int from = text.indexOf("```java") + "```java".length();
        Set<String> lines = new TreeSet<>();
        for (String line : text.substring(from, text.indexOf("```", from)).split("\n")) {
            String plain = line.trim();
            if (plain.startsWith("public")) {
                // The class itself tells the types of parameters, not their names.
                lines.add(plain.replaceAll("\\b(int|boolean) \\w+([,)])", "$1$2"));
            }
        }
        return lines;
    }

    private static Set<String> faceOfTheClass() throws IllegalAccessException {
        Class<?> type = LineFrames.class;
        Set<String> lines = new TreeSet<>();
        lines.add(Modifier.toString(type.getModifiers()) + " class " + type.getName() + " {");
        for (Field f : type.getDeclaredFields()) {
            if (isSeen(f.getModifiers()) && !f.isSynthetic()) {
                lines.add(Modifier.toString(f.getModifiers()) + " " + f.getType().getName() + " " + f.getName() + " = "
                        + f.getInt(null) + ";");
            }
        }
        for (Constructor<?> c : type.getDeclaredConstructors()) {
            if (isSeen(c.getModifiers()) && !c.isSynthetic()) {
                lines.add(shown(c, type.getName()));
            }
        }
        for (Method m : type.getDeclaredMethods()) {
            if (isSeen(m.getModifiers()) && !m.isSynthetic()) {
                lines.add(shown(m, m.getReturnType().getName() + " " + m.getName()));
            }
        }
        return lines;
    }

    private static boolean isSeen(int modifiers) {
        return !Modifier.isPrivate(modifiers);
    }

    private static String shown(Executable e, String name) {
        String thrown = e.getExceptionTypes().length == 0 ? "" : " throws " + names(e.getExceptionTypes());
        String given = "(" + names(e.getParameterTypes()) + ")";
        return Modifier.toString(e.getModifiers()) + " " + name + given + thrown + ";";
    }

    private static String names(Class<?>[] types) {
        return Arrays.stream(types).map(Class::getSimpleName).collect(Collectors.joining(", "));
    }
}
