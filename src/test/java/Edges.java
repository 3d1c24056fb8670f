import java.io.IOException;
import java.nio.file.Files;
import java.nio.file.Path;
import java.util.Arrays;
import java.util.function.Consumer;
import java.util.regex.Matcher;
import java.util.regex.Pattern;

/** Runs tests each of which names its promise and the sentence of the document that it stands for. */
final class Edges {
    private static final int PROMISES = 18;
    private static final Path DOCUMENT = Path.of("../shared/DOC.md");
    private static final Pattern HEADING = Pattern.compile("## Promise \\d+: [\\w ]+? `[^`]*`:");
    /** What may stand between two quotes: a word or two that joins them. */
    private static final int JOINING_LETTERS = 10;

    private final String document;
    private final boolean[] quoted;
    private final int[] ofPromise = new int[PROMISES + 1];
    private int count = 0;
    private int broken = 0;

    Edges() throws IOException {
        document = Files.readString(DOCUMENT).replaceAll("\\s+", " ");
        quoted = new boolean[document.length()];
    }

    void edge(int promise, String sentence, Consumer<Due> test) {
        Due due = new Due("promise " + promise + ", \"" + sentence + "\"");
        // A sentence that the document no longer has would be a test of nothing.
        if (!document.contains(sentence)) {
            due.fault("the document has no such sentence");
        }
        quote(sentence);
        try {
            test.accept(due);
        } catch (RuntimeException e) {
            due.fault("a call threw " + e);
        }
        count++;
        ofPromise[promise]++;
        if (due.wrong() != 0) {
            broken++;
        }
    }

    private void quote(String sentence) {
        int from = document.indexOf(sentence);
        while (from >= 0) {
            Arrays.fill(quoted, from, from + sentence.length(), true);
            from = document.indexOf(sentence, from + 1);
        }
    }

    void end() {
        for (int promise = 1; promise <= PROMISES; promise++) {
            if (ofPromise[promise] == 0) {
                tell("no case of promise " + promise);
            }
        }
        eachSentenceIsQuoted();
        System.out.println(count + " cases of the document's sentences, " + broken + " broken");
        if (broken != 0) {
            System.exit(1);
        }
    }

    private void eachSentenceIsQuoted() {
        Matcher headings = HEADING.matcher(document);
        while (headings.find()) {
            Arrays.fill(quoted, headings.start(), headings.end(), true);
        }
        int from = document.indexOf("## Terms");
        int to = document.indexOf("## Not promised");
        StringBuilder open = new StringBuilder();
        for (int i = from; i < to; i++) {
            if (!quoted[i]) {
                open.append(document.charAt(i));
            }
            if (quoted[i] || i == to - 1) {
                if (open.chars().filter(Character::isLetter).count() > JOINING_LETTERS) {
                    tell("no case of: " + open);
                }
                open.setLength(0);
            }
        }
    }

    private void tell(String text) {
        System.out.println(text);
        broken++;
    }
}
