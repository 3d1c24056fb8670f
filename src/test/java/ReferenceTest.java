import java.util.ArrayList;
import java.util.Arrays;
import java.util.List;
import java.util.Random;

/** Promises 8, 13 to 17: many pictures, whole, altered, cut and mixed, against the Reference. */
public final class ReferenceTest {
    private static final Due due = new Due("ReferenceTest");
    private static final int[] faults = new int[10];

    public static void main(String[] args) {
        for (int seed = 0; seed < 3000; seed++) {
            Random random = new Random(seed);
            LineFrames x = new LineFrames(random.nextInt(3));
            Reference r = make(x, random);
            written(x, r, random, seed);
            int[] stream = new int[x.told(3)];
            for (int i = 0; i < stream.length; i++) {
                stream[i] = x.byteAt(i);
            }
            x.pass(0, 6000);
            compare(x, stream, "whole, seed " + seed);
            altered(x, stream, random, seed);
            mixed(r, x.told(0), random, seed);
        }
        largest();
        for (int fault = 0; fault <= 9; fault++) {
            if (faults[fault] < 20) {
                due.fault("fault " + fault + " came only " + faults[fault] + " times");
            }
        }
        due.end();
    }

    private static Reference make(LineFrames x, Random random) {
        Reference r = new Reference();
        int limit = random.nextInt(4) == 0 ? 12 : 5;
        r.picture(1 + random.nextInt(limit), 1 + random.nextInt(limit), 2 + random.nextInt(7), 1 + random.nextInt(4));
        x.picture(r.width, r.height, r.bits, r.components);
        int top = (1 << r.bits) - 1;
        int spread = random.nextBoolean() ? top : Math.max(1, top / 8);
        for (int c = 0; c < r.components; c++) {
            for (int y = 0; y < r.height; y++) {
                for (int xx = 0; xx < r.width; xx++) {
                    int v = random.nextInt(3) == 0 ? top - random.nextInt(spread + 1) : random.nextInt(spread + 1);
                    r.samples[c][y][xx] = v;
                    x.put(c, xx, y, v);
                }
            }
            if (random.nextInt(4) == 0) {
                r.tables[c] = new int[top + 1];
                for (int i = 0; i < 3; i++) {
                    int from = random.nextInt(top + 1);
                    r.tables[c][from] = random.nextInt(65536);
                    x.table(c, from, r.tables[c][from]);
                }
            }
        }
        if (random.nextBoolean()) {
            r.reset = random.nextBoolean() ? 3 + random.nextInt(6) : 3 + random.nextInt(253);
            r.start = random.nextBoolean() ? 1 : 1 + random.nextInt(255);
            x.preset(0, r.reset);
            x.preset(1, r.start);
        }
        if (random.nextBoolean()) {
            r.restart = random.nextInt(4) == 0 ? random.nextInt(13) : 1;
            x.preset(2, r.restart);
        }
        int notes = random.nextInt(3) == 0 ? random.nextInt(7) : 0;
        for (int n = 0; n < notes; n++) {
            int[] note = new int[1 + random.nextInt(6)];
            note[0] = random.nextInt(17);
            x.note(note[0]);
            for (int i = 1; i < note.length; i++) {
                note[i] = random.nextInt(256);
                x.byteOf(n, note[i]);
            }
            r.notes.add(note);
        }
        return r;
    }

    private static void written(LineFrames x, Reference r, Random random, int seed) {
        int near = random.nextInt(4);
        int[] want = Reference.join(r.segments(x.told(0), near));
        due.same("write(" + near + "), seed " + seed, x.write(near), want.length);
        for (int i = 0; i < want.length && i < x.told(3); i++) {
            due.same("byte " + i + " of write(" + near + "), seed " + seed, x.byteAt(i), want[i]);
        }
    }

    private static void altered(LineFrames x, int[] stream, Random random, int seed) {
        for (int round = 0; round < 12; round++) {
            int size = random.nextInt(6) == 0 ? random.nextInt(stream.length) : stream.length;
            int[] bytes = Arrays.copyOf(stream, size);
            x.drop();
            if (bytes.length > 0) {
                x.pass(0, bytes.length);
            }
            int times = bytes.length == 0 ? 0 : random.nextInt(3);
            for (int i = 0; i < times; i++) {
                int reach = random.nextBoolean() ? bytes.length : Math.min(bytes.length, 70);
                int where = random.nextInt(reach);
                if (random.nextInt(3) == 0) {
                    where = bytes.length - 1 - Math.min(bytes.length - 1, random.nextInt(40));
                }
                int b = new int[] {0, 255, bytes[where] ^ 1 << random.nextInt(8), bytes[where] + 1 & 255,
                    random.nextInt(256)}[random.nextInt(5)];
                due.same("alter, seed " + seed, x.alter(where, b), bytes[where]);
                bytes[where] = b;
            }
            if (random.nextInt(10) == 0) {
                bytes = Arrays.copyOf(bytes, bytes.length + 1);
                x.feed(0);
            }
            compare(x, bytes, "altered, seed " + seed + ", round " + round);
        }
    }

    /** Segments doubled, lost or exchanged. */
    private static void mixed(Reference r, int turn, Random random, int seed) {
        for (int round = 0; round < 6; round++) {
            List<int[]> parts = new ArrayList<>(r.segments(turn, random.nextInt(4)));
            if (random.nextInt(3) == 0) {
                parts.addAll(parts.size() - 1, r.segments(random.nextInt(3), 0));
            }
            int times = 1 + random.nextInt(3);
            for (int i = 0; i < times && parts.size() > 2; i++) {
                int one = 1 + random.nextInt(parts.size() - 1);
                int other = 1 + random.nextInt(parts.size() - 1);
                switch (random.nextInt(3)) {
                    case 0: parts.remove(one); break;
                    case 1: parts.add(other, parts.get(one)); break;
                    default: parts.set(one, parts.set(other, parts.get(one)));
                }
            }
            int[] bytes = Reference.join(parts);
            if (bytes.length <= 6000) {
                LineFrames x = new LineFrames(0);
                Due.feedAll(x, bytes);
                compare(x, bytes, "mixed, seed " + seed + ", round " + round);
            }
        }
    }

    private static void compare(LineFrames x, int[] bytes, String what) {
        Reference r = new Reference();
        int want = r.read(bytes);
        faults[r.fault]++;
        due.same("read(), " + what, x.read(), want);
        due.same("told(5), " + what, x.told(5), r.fault);
        due.same("told(6), " + what, x.told(6), r.restarts);
        due.same("told(7), " + what, x.told(7), r.scans);
        due.same("told(4), " + what, x.told(4), bytes.length);
        if (want < 0 || x.told(5) != 0) {
            return;
        }
        int[] found = {r.width, r.height, r.bits, r.components, r.near, r.turn, r.reset, r.start, r.restart,
            r.notes.size()};
        for (int i = 0; i < found.length; i++) {
            due.same("found(" + i + "), " + what, x.found(i), found[i]);
        }
        for (int n = 0; n < r.notes.size(); n++) {
            for (int i = 0; i < r.notes.get(n).length; i++) {
                due.same("noteAt(" + n + ", " + (i - 1) + "), " + what, x.noteAt(n, i - 1), r.notes.get(n)[i]);
            }
        }
        for (int c = 0; c < r.components; c++) {
            for (int y = 0; y < r.height; y++) {
                for (int xx = 0; xx < r.width; xx++) {
                    int v = r.samples[c][y][xx];
                    due.same("at, " + what, x.at(c, xx, y, false), v);
                    due.same("at meant, " + what, x.at(c, xx, y, true), r.tables[c] == null ? v : r.tables[c][v]);
                }
            }
        }
    }

    /** The longest streams must fit, for every NEAR and TURN. */
    private static void largest() {
        for (int turn = 0; turn <= 2; turn++) {
            LineFrames x = new LineFrames(turn);
            Reference r = new Reference();
            r.picture(12, 12, 8, 4);
            x.picture(12, 12, 8, 4);
            r.restart = 1;
            r.start = 1;
            r.reset = 3;
            x.preset(0, 3);
            x.preset(1, 1);
            x.preset(2, 1);
            for (int c = 0; c < 4; c++) {
                r.tables[c] = new int[256];
                x.table(c, 0, 0);
                for (int i = 0; i < 144; i++) {
                    int v = i % 2 == 0 ? 128 : 0;
                    r.samples[c][i / 12][i % 12] = v;
                    x.put(c, i % 12, i / 12, v);
                }
            }
            for (int n = 0; n < 6; n++) {
                int[] note = new int[31];
                note[0] = 16;
                x.note(16);
                for (int i = 1; i <= 30; i++) {
                    note[i] = 255;
                    x.byteOf(n, 255);
                }
                r.notes.add(note);
            }
            int[] want = Reference.join(r.segments(turn, 0));
            due.same("write(0) of the largest", x.write(0), want.length);
            x.pass(0, 6000);
            compare(x, want, "the largest of TURN " + turn);
        }
    }
}
