/** Promises 8 and 9: write, byteAt, against streams that were made by hand. */
public final class WriteTest {
    private static final String ONE_OF_8 = "FFDA 0008 01 01 00 00 00 00";

    public static void main(String[] args) {
        Due due = new Due("WriteTest");
        wholeStream(due);
        segmentsThatMayLack(due);
        turns(due);
        bytesBehind255(due);
        longErrors(due);
        nearErrors(due);
        resets(due);
        manyRestarts(due);
        answers(due);
        due.end();
    }

    private static LineFrames line(int bits, int start, int... samples) {
        LineFrames x = new LineFrames(0);
        x.picture(samples.length, 1, bits, 1);
        x.preset(1, start);
        for (int i = 0; i < samples.length; i++) {
            x.put(0, i, 0, samples[i]);
        }
        return x;
    }

    private static String frame(int bits, int width, int height) {
        return String.format("FFD8 FFF7 000B %02X 00%02X 00%02X 01 011100", bits, height, width);
    }

    private static String startOf(int start) {
        return String.format("FFF8 0005 01 40 %02X", start);
    }

    private static void wholeStream(Due due) {
        LineFrames x = new LineFrames(0);
        x.picture(1, 1, 2, 1);
        due.same("write(0) of the least picture", x.write(0), 28);
        due.stream("the least picture", x, frame(2, 1, 1) + ONE_OF_8 + "80 FFD9");
        x.note(16);
        x.byteOf(0, 65);
        x.note(0);
        x.note(15);
        x.preset(0, 65);
        x.preset(2, 12);
        x.table(0, 1, 0x1234);
        x.table(0, 3, 0xFFFF);
        x.write(2);
        due.stream("the least picture with everything", x, "FFD8 FFFE 0003 41 FFE0 0002 FFEF 0002"
                + "FFF7 000B 02 0001 0001 01 011100 FFF8 0005 01 41 04"
                + "FFF8 000D 02 01 02 0000 1234 0000 FFFF FFDD 0004 000C"
                + "FFDA 0008 01 0101 02 00 00 80 FFD9");
    }

    private static void segmentsThatMayLack(Due due) {
        LineFrames x = new LineFrames(2);
        x.picture(1, 1, 2, 1);
        x.preset(0, 64);
        x.preset(1, 4);
        x.preset(2, 0);
        x.write(0);
        due.stream("presets as at first", x, frame(2, 1, 1) + ONE_OF_8 + "80 FFD9");
        x.preset(1, 5);
        x.write(0);
        due.stream("START 5", x, frame(2, 1, 1) + startOf(5) + ONE_OF_8 + "80 FFD9");
    }

    private static LineFrames twoOfTwo(int turn) {
        LineFrames x = new LineFrames(turn);
        x.picture(2, 2, 2, 2);
        x.preset(1, 1);
        x.table(1, 0, 0);
        x.put(0, 1, 0, 1);
        x.put(1, 0, 1, 3);
        x.write(0);
        return x;
    }

    /**
     * Component 0 has the rows 0, 1 and 0, 0: told by k 0 as 1 001 and 1 01 (its last is 0 where 1 is foretold).
     * Component 1 has the rows 0, 0 and 3, 0: told as 1 1 and 01 001 (3 more is told as 1 less, of a RANGE of 4).
     */
    private static void turns(Due due) {
        String head = "FFD8 FFF7 000E 02 0002 0002 02 011100 021100 FFF8 0005 01 40 01"
                + "FFF8 000D 02 02 02 0000000000000000";
        String both = "FFDA 000A 02 0100 0202 00";
        due.stream("TURN 0", twoOfTwo(0), head + "FFDA 0008 01 0100 00 00 00" + hex("1 001 1 01")
                + "FFDA 0008 01 0202 00 00 00" + hex("1 1 01 001") + "FFD9");
        due.stream("TURN 1", twoOfTwo(1), head + both + "01 00" + hex("1 001 1 1 1 01 01 001") + "FFD9");
        due.stream("TURN 2", twoOfTwo(2), head + both + "02 00" + hex("1 1 001 1 1 01 01 001") + "FFD9");
    }

    /** Bits filled up to bytes, without a look at any 255. */
    private static String hex(String bits) {
        StringBuilder text = new StringBuilder(bits.replace(" ", ""));
        while (text.length() % 8 != 0) {
            text.append('0');
        }
        StringBuilder hex = new StringBuilder();
        for (int i = 0; i < text.length(); i += 8) {
            hex.append(String.format("%02X", Integer.parseInt(text.substring(i, i + 8), 2)));
        }
        return hex.toString();
    }

    /** With START 1 each 0 behind a 0 is one bit 1. */
    private static void bytesBehind255(Due due) {
        int[][] shapes = {{7, 1}, {8, 1}, {9, 1}, {5, 3}, {8, 2}, {12, 2}};
        String[] data = {"FE", "FF00", "FF40", "FF7F", "FF7F80", "FF7FFF40"};
        for (int i = 0; i < shapes.length; i++) {
            LineFrames x = new LineFrames(0);
            x.picture(shapes[i][0], shapes[i][1], 2, 1);
            x.preset(1, 1);
            x.write(0);
            due.stream("zeros", x, frame(2, shapes[i][0], shapes[i][1]) + startOf(1) + ONE_OF_8 + data[i] + "FFD9");
        }
        LineFrames x = new LineFrames(0);
        x.picture(8, 2, 2, 1);
        x.preset(1, 1);
        x.preset(2, 1);
        x.write(0);
        due.stream("zeros with a restart", x, frame(2, 8, 2) + startOf(1) + "FFDD 0004 0001" + ONE_OF_8
                + "FF00 FFD0 FF00 FFD9");
    }

    private static void longErrors(Due due) {
        int[] samples = {246, 10, 200, 127, 128};
        // 19 zeros and a 1; 20 zeros, a 1 and m 20, 111, 254 or 255 in nine bits.
        String[] data = {"000010", "00000850", "000009BC", "00000BF8", "00000BFC"};
        for (int i = 0; i < samples.length; i++) {
            LineFrames x = line(8, 1, samples[i]);
            x.write(0);
            due.stream("the sample " + samples[i], x, frame(8, 1, 1) + startOf(1) + ONE_OF_8 + data[i] + "FFD9");
        }
        LineFrames x = line(8, 255, 255);
        x.write(0);
        // k is 8: a 1 and m = 1 in eight bits.
        due.stream("k of 8", x, frame(8, 1, 1) + startOf(255) + ONE_OF_8 + "8080 FFD9");
    }

    private static void nearErrors(Due due) {
        LineFrames x = line(2, 4, 3);
        x.write(3);
        due.stream("3 by NEAR 3", x, frame(2, 1, 1) + "FFDA 0008 01 0100 03 00 00 80 FFD9");
        x.write(1);
        // STEP 3, RANGE 2: the error 1 becomes -1, m is 1.
        due.stream("3 by NEAR 1", x, frame(2, 1, 1) + "FFDA 0008 01 0100 01 00 00 A0 FFD9");
        x.write(2);
        // STEP 5, RANGE 2: 3 and 2 by 5 is 1.
        due.stream("3 by NEAR 2", x, frame(2, 1, 1) + "FFDA 0008 01 0100 02 00 00 A0 FFD9");
        LineFrames y = line(8, 4, 10, 8, 12);
        y.write(1);
        // 10: 11 / 3 = 3, told 9, m 6, k 2: 01 10. 8: -(1 + 1) / 3 = 0, A 7, N 2, k 2: 1 00.
        // 12 for 9: 4 / 3 = 1, m 2, A 7, N 3, k 2: 1 10.
        due.stream("10, 8, 12 by NEAR 1", y, frame(8, 3, 1) + "FFDA 0008 01 0100 01 00 00"
                + hex("01 10 1 00 1 10") + "FFD9");
    }

    private static void resets(Due due) {
        LineFrames x = line(4, 7, 0, 0, 0, 0, 0, 0);
        x.preset(0, 3);
        x.write(0);
        // A 7, N 1, 2, 3: k 3, 2, 2; then halved: A 3, N 1 + 1: k 1; N 3: k 0; halved: A 1, N 2: k 0.
        due.stream("RESET 3", x, frame(4, 6, 1) + "FFF8 0005 01 03 07" + ONE_OF_8
                + hex("1000 100 100 10 1 1") + "FFD9");
    }

    private static void manyRestarts(Due due) {
        LineFrames x = new LineFrames(0);
        x.picture(1, 12, 2, 1);
        x.preset(2, 1);
        for (int y = 0; y < 12; y++) {
            x.put(0, 0, y, 1);
        }
        x.write(0);
        StringBuilder data = new StringBuilder();
        for (int y = 0; y < 12; y++) {
            // Each row is a first one: 1 for 0 by k 2.
            data.append("C0");
            data.append(y < 11 ? "FFD" + y % 8 : "FFD9");
        }
        due.stream("RESTART 1", x, frame(2, 1, 12) + "FFDD 0004 0001" + ONE_OF_8 + data);
        x.picture(1, 5, 2, 1);
        x.preset(2, 2);
        x.put(0, 0, 1, 2);
        x.write(0);
        // 0; -2 for 0, m 3, by A 4, N 2, k 1: 011. 0 for 0; 0 for 0. 0.
        due.stream("RESTART 2", x, frame(2, 1, 5) + "FFDD 0004 0002" + ONE_OF_8
                + hex("100 01 1") + "FFD0" + hex("100 10") + "FFD1" + hex("100") + "FFD9");
        x.picture(1, 2, 2, 1);
        x.preset(2, 2);
        x.write(0);
        due.stream("RESTART behind the last row", x, frame(2, 1, 2) + "FFDD 0004 0002" + ONE_OF_8
                + hex("100 10") + "FFD9");
    }

    private static void answers(Due due) {
        LineFrames x = new LineFrames(0);
        x.picture(1, 1, 2, 1);
        for (int near : new int[] {-1, 4, Integer.MIN_VALUE, Integer.MAX_VALUE}) {
            due.argument("write(" + near + ")", () -> x.write(near));
        }
        due.same("told(3) behind wrong ones", x.told(3), 0);
        due.same("write(3)", x.write(3), 28);
        due.argument("write(4)", () -> x.write(4));
        due.same("told(3) behind a right one", x.told(3), 28);
        due.same("byteAt(27)", x.byteAt(27), 0xD9);
        for (int i : new int[] {-1, 28, Integer.MIN_VALUE, Integer.MAX_VALUE}) {
            due.index("byteAt(" + i + ")", () -> x.byteAt(i));
        }
        x.note(0);
        due.same("write(0) of a longer one", x.write(0), 32);
        x.picture(1, 1, 2, 1);
        due.same("write(0) of a shorter one", x.write(0), 28);
        due.index("byteAt(28) of a shorter one", () -> x.byteAt(28));
    }
}
