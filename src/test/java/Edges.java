import java.io.IOException;
import java.nio.file.Files;
import java.nio.file.Path;
import java.util.function.Consumer;

/** Runs tests of boundary cases, each of which names its promise and the sentence that it stands for. */
final class Edges {
    private static final int PROMISES = 18;
    private static final Path DOCUMENT = Path.of("../shared/DOC.md");

    private final String document;
    private final int[] ofPromise = new int[PROMISES + 1];
    private int count = 0;
    private int broken = 0;

    Edges() throws IOException {
        document = Files.exists(DOCUMENT) ? plain(Files.readString(DOCUMENT)) : null;
    }

    private static String plain(String text) {
        return text.replaceAll("\\s+", " ");
    }

    void edge(int promise, String sentence, Consumer<Due> test) {
        Due due = new Due("promise " + promise + ", \"" + sentence + "\"");
        // A sentence that the document no longer has would be a test of nothing.
        if (document != null && !document.contains(sentence)) {
            due.fault("the document has no such sentence");
        }
        try {
            test.accept(due);
        } catch (RuntimeException e) {
            due.fault("a call threw " + e);
        }
        count++;
        ofPromise[promise]++;
        if (due.wrong() != 0) {
            broken++;
        }
    }

    void end() {
        for (int promise = 1; promise <= PROMISES; promise++) {
            if (ofPromise[promise] == 0) {
                System.out.println("no boundary case of promise " + promise);
                broken++;
            }
        }
        System.out.println(count + " boundary cases, " + broken + " broken");
        if (broken != 0) {
            System.exit(1);
        }
    }
}
