import java.util.List;
import java.util.Random;

/** All promises: whatever a call is given, in whatever state, it throws only what its face names. */
public final class WildCallsTest {
    private static final int[] WILD = {Integer.MIN_VALUE, -2, -1, 0, 0, 0, 1, 1, 2, 3, 4, 5, 8, 11, 12, 13, 16, 17, 28,
        64, 127, 128, 208, 216, 255, 256, 5999, 6000, 65535, 65536, Integer.MAX_VALUE};
    private static final Class<?> STATE = IllegalStateException.class;
    private static final Class<?> INDEX = IndexOutOfBoundsException.class;
    private static final Class<?> ARGUMENT = IllegalArgumentException.class;
    private static final Class<?> ROOM = UnsupportedOperationException.class;
    private static final List<List<Class<?>>> THROWS = List.of(
            List.of(ARGUMENT), List.of(STATE, INDEX, ARGUMENT), List.of(STATE, ARGUMENT),
            List.of(STATE, INDEX, ARGUMENT), List.of(STATE, ARGUMENT, ROOM), List.of(STATE, INDEX, ARGUMENT, ROOM),
            List.of(STATE, ARGUMENT), List.of(INDEX), List.of(ARGUMENT, ROOM), List.of(INDEX, ARGUMENT, ROOM),
            List.of(INDEX, ARGUMENT), List.of(), List.of(STATE, INDEX), List.of(STATE), List.of(STATE, INDEX),
            List.of(), List.of());

    public static void main(String[] args) {
        Due due = new Due("WildCallsTest");
        for (int seed = 0; seed < 2000; seed++) {
            Random random = new Random(seed);
            LineFrames x = new LineFrames(wild(random));
            for (int i = 0; i < 512; i++) {
                int call = random.nextInt(THROWS.size());
                try {
                    call(x, call, random);
                } catch (RuntimeException e) {
                    if (!THROWS.get(call).contains(e.getClass())) {
                        due.fault("call " + call + " of seed " + seed + " threw " + e);
                    }
                }
            }
        }
        due.end();
    }

    private static int wild(Random random) {
        return WILD[random.nextInt(WILD.length)];
    }

    private static int tame(Random random, int bound) {
        return random.nextInt(8) == 0 ? wild(random) : random.nextInt(bound);
    }

    private static void call(LineFrames x, int call, Random r) {
        switch (call) {
            case 0:
                if (r.nextInt(10) == 0) {
                    x.picture(tame(r, 13), tame(r, 13), tame(r, 9), tame(r, 5));
                }
                break;
            case 1: x.put(tame(r, 4), tame(r, 12), tame(r, 12), tame(r, 256)); break;
            case 2: x.preset(tame(r, 3), tame(r, 13)); break;
            case 3: x.table(tame(r, 4), tame(r, 256), tame(r, 65536)); break;
            case 4: x.note(tame(r, 17)); break;
            case 5: x.byteOf(tame(r, 6), tame(r, 256)); break;
            case 6: x.write(tame(r, 4)); break;
            case 7: x.byteAt(wild(r)); break;
            case 8: x.feed(tame(r, 256)); break;
            case 9: x.pass(tame(r, 2), tame(r, 6000)); break;
            case 10: x.alter(tame(r, 100), tame(r, 256)); break;
            case 11: x.read(); break;
            case 12: x.at(tame(r, 4), tame(r, 12), tame(r, 12), r.nextBoolean()); break;
            case 13: x.found(tame(r, 11)); break;
            case 14: x.noteAt(tame(r, 6), tame(r, 30) - 1); break;
            case 15: x.told(tame(r, 9)); break;
            default: x.drop();
        }
    }
}
