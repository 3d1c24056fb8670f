import java.util.function.Consumer;
import java.util.function.Supplier;

/** Compares answers with those that are due, and ends a test. */
final class Due {
    private final String name;
    private int wrong = 0;

    Due(String name) {
        this.name = name;
    }

    void same(String call, long got, long want) {
        if (got != want) {
            fault(call + " answered " + got + ", due is " + want);
        }
    }

    /** The very class is due: a machine's own exception below it would be wrong. */
    void fails(String call, Class<? extends RuntimeException> want, Runnable run) {
        try {
            run.run();
        } catch (RuntimeException e) {
            if (e.getClass() != want) {
                fault(call + " threw " + e.getClass().getName() + ", due is " + want.getName());
            }
            return;
        }
        fault(call + " threw nothing, due is " + want.getName());
    }

    void state(String call, Runnable run) {
        fails(call, IllegalStateException.class, run);
    }

    void index(String call, Runnable run) {
        fails(call, IndexOutOfBoundsException.class, run);
    }

    void argument(String call, Runnable run) {
        fails(call, IllegalArgumentException.class, run);
    }

    void room(String call, Runnable run) {
        fails(call, UnsupportedOperationException.class, run);
    }

    /** The call throws, and all that can be asked of the object is as without the call. */
    void refused(String call, Class<? extends RuntimeException> want, Supplier<LineFrames> make,
            Consumer<LineFrames> run) {
        LineFrames x = make.get();
        fails(call, want, () -> run.accept(x));
        String after = State.of(x);
        String without = State.of(make.get());
        if (!after.equals(without)) {
            fault(call + " threw, and left " + after + ", due is " + without);
        }
    }

    void fault(String text) {
        wrong++;
        if (wrong <= 20) {
            System.out.println(name + ": " + text);
        }
    }

    int wrong() {
        return wrong;
    }

    void end() {
        if (wrong != 0) {
            System.out.println(name + ": " + wrong + " wrong");
            System.exit(1);
        }
    }

    /** The bytes that a text tells in base 16; blanks do not count. */
    static int[] bytes(String hex) {
        String digits = hex.replaceAll("\\s", "");
        int[] bytes = new int[digits.length() / 2];
        for (int i = 0; i < bytes.length; i++) {
            bytes[i] = Integer.parseInt(digits.substring(2 * i, 2 * i + 2), 16);
        }
        return bytes;
    }

    static void feedAll(LineFrames x, int[] bytes) {
        for (int b : bytes) {
            x.feed(b);
        }
    }

    /** What was written, in base 16. */
    static String written(LineFrames x) {
        StringBuilder text = new StringBuilder();
        int size = x.told(3);
        for (int i = 0; i < size; i++) {
            text.append(String.format("%02X", x.byteAt(i)));
        }
        return text.toString();
    }

    void stream(String call, LineFrames x, String hex) {
        String want = hex.replaceAll("\\s", "");
        String got = written(x);
        if (!got.equals(want)) {
            fault(call + " wrote " + got + ", due is " + want);
        }
    }

    /** Reads a stream on its own: what read() answers, the fault, restarts and scans. */
    void reading(String hex, int answer, int fault, int restarts, int scans) {
        LineFrames x = new LineFrames(0);
        feedAll(x, bytes(hex));
        same("read() of " + hex, x.read(), answer);
        same("told(5) of " + hex, x.told(5), fault);
        same("told(6) of " + hex, x.told(6), restarts);
        same("told(7) of " + hex, x.told(7), scans);
        if (answer < 0) {
            state("found(0) of the broken " + hex, () -> x.found(0));
        }
    }
}
