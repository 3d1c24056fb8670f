import java.io.IOException;
import java.lang.reflect.InvocationTargetException;
import java.lang.reflect.Method;
import java.lang.reflect.Modifier;
import java.nio.file.DirectoryStream;
import java.nio.file.Files;
import java.nio.file.Path;
import java.util.HashMap;
import java.util.Map;
import java.util.Set;
import java.util.TreeSet;
import java.util.regex.Matcher;
import java.util.regex.Pattern;

/** All promises: the calls that README.md shows answer what it says; and it tells of every call and every test. */
public final class ReadmeTest {
    private static final Path README = Path.of("README.md");
    private static final Path TESTS = Path.of("src/test/java");
    private static final Pattern BLOCK = Pattern.compile("```java\n(.*?)```", Pattern.DOTALL);
    private static final Pattern MAKING = Pattern.compile("LineFrames (\\w+) = new LineFrames\\((-?\\d+)\\);( *//.*)?");
    private static final Pattern CALL =
            Pattern.compile("(\\w+)\\.(\\w+)\\(([^()]*)\\);(?: *// (-?\\d+|throws \\w+)(?:: .*)?)?");

    private final Due due = new Due("ReadmeTest");
    private final Map<String, LineFrames> objects = new HashMap<>();
    private final Set<String> shown = new TreeSet<>();

    public static void main(String[] args) throws IOException, IllegalAccessException {
        new ReadmeTest().run(Files.readString(README));
    }

    private void run(String text) throws IOException, IllegalAccessException {
        Matcher blocks = BLOCK.matcher(text);
        while (blocks.find()) {
            for (String line : blocks.group(1).split("\n")) {
                example(line);
            }
        }
        for (Method m : LineFrames.class.getDeclaredMethods()) {
            if (Modifier.isPublic(m.getModifiers()) && !shown.contains(m.getName())) {
                due.fault("no example of " + m.getName());
            }
        }
        try (DirectoryStream<Path> tests = Files.newDirectoryStream(TESTS, "*Test.java")) {
            for (Path test : tests) {
                String name = test.getFileName().toString().replace(".java", "");
                if (!text.contains("| `" + name + "` |")) {
                    due.fault("nothing is said of " + name);
                }
            }
        }
        due.end();
    }

    private void example(String line) throws IllegalAccessException {
        Matcher making = MAKING.matcher(line);
        Matcher call = CALL.matcher(line);
        if (making.matches()) {
            objects.put(making.group(1), new LineFrames(Integer.parseInt(making.group(2))));
        } else if (call.matches() && objects.containsKey(call.group(1))) {
            String want = String.valueOf(call.group(4));
            String got = answer(objects.get(call.group(1)), call.group(2), call.group(3));
            if (!got.equals(want)) {
                due.fault(line + " answered " + got);
            }
        } else {
            due.fault("not understood: " + line);
        }
    }

    /** A number, what is thrown, or null of a call that answers nothing. */
    private String answer(LineFrames x, String name, String arguments) throws IllegalAccessException {
        String[] words = arguments.isEmpty() ? new String[0] : arguments.split(", ");
        for (Method m : LineFrames.class.getDeclaredMethods()) {
            boolean seen = Modifier.isPublic(m.getModifiers());
            if (seen && m.getName().equals(name) && m.getParameterCount() == words.length) {
                shown.add(name);
                try {
                    return String.valueOf(m.invoke(x, values(words)));
                } catch (InvocationTargetException e) {
                    return "throws " + e.getCause().getClass().getSimpleName();
                }
            }
        }
        return "nothing, as there is no such call";
    }

    private static Object[] values(String[] words) {
        Object[] values = new Object[words.length];
        for (int i = 0; i < words.length; i++) {
            boolean truth = words[i].equals("true") || words[i].equals("false");
            values[i] = truth ? (Object) Boolean.valueOf(words[i]) : (Object) Integer.valueOf(words[i]);
        }
        return values;
    }
}
