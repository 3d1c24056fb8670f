/** Boundary cases of promise 13: faults in the data, samples read back, and what read() answers. */
final class ReadEdges {
    private static final String BEGIN = Parts.BEGIN;
    private static final String END = Parts.END;

    private ReadEdges() {
    }

    static void all(Edges edges) {
        answers(edges);
        bits(edges);
        restarts(edges);
        samples(edges);
    }

    private static void broken(Due due, String before, String rest, int fault) {
        due.reading(before + rest, -1 - Parts.size(before), fault, 0, 0);
    }

    private static void cut(Due due, String hex) {
        due.reading(hex, -1 - Parts.size(hex), 1, 0, 0);
    }

    /** One row of bits 1: by START 1 each sample 0 is one. */
    private static String ones(int width, int height) {
        return BEGIN + Parts.frame(width, height, 2, 1) + Parts.presets(64, 1) + Parts.scan(0, 0, 1);
    }

    // ---- what read() answers

    private static void answers(Edges edges) {
        edges.edge(13, "READING: how many components", ReadEdges::howMany);
        edges.edge(13, "-1 less the place at which it is BROKEN (nothing is READ then).", ReadEdges::places);
        edges.edge(13, "The bytes stay.", ReadEdges::bytesStay);
        edges.edge(13, "READING takes the bytes that came, from place 0 on.", ReadEdges::fromPlace0);
        edges.edge(13, "It is BROKEN by a FAULT, told with a place, the first that it meets", ReadEdges::firstFault);
        edges.edge(13, "1: a byte is wanted, and there is none (place: as many as there are)", ReadEdges::everyCut);
    }

    private static void howMany(Due due) {
        for (int components = 1; components <= 4; components++) {
            for (int turn = 0; turn <= 2; turn++) {
                LineFrames x = new LineFrames(turn);
                x.picture(1, 1, 2, components);
                x.write(0);
                x.pass(0, 6000);
                due.same("read() of " + components, x.read(), components);
            }
        }
    }

    private static void places(Due due) {
        LineFrames x = new LineFrames(0);
        due.same("read() of none", x.read(), -1);
        x.feed(255);
        due.same("read() of one byte", x.read(), -2);
        LineFrames full = State.full();
        due.same("found(0) of an earlier reading", full.found(0), 2);
        due.same("read() of what does not begin with a mark", full.read(), -1);
        due.state("found(0) of a broken one", () -> full.found(0));
        due.state("at of a broken one", () -> full.at(0, 0, 0, false));
        due.state("noteAt of a broken one", () -> full.noteAt(0, -1));
        due.same("the picture's NOTES", full.told(2), 6);
        // The last place that there is: a note that tells more bytes than the 6000 have.
        int[] head = {255, 0xD8, 255, 0xE0, 255, 255};
        for (int i = 0; i < head.length; i++) {
            full.alter(i, head[i]);
        }
        due.same("read() of 6000 bytes that lack one", full.read(), -6001);
        due.same("its FAULT", full.told(5), 1);
        // A note of 5996 bytes ends where the bytes end: it is told at its mark.
        full.alter(4, 5996 / 256);
        full.alter(5, 5996 % 256);
        due.same("read() of a note up to the last byte", full.read(), -3);
        due.same("its FAULT", full.told(5), 4);
        full.alter(4, 5997 / 256);
        full.alter(5, 5997 % 256);
        due.same("read() of a note with one byte more", full.read(), -6001);
    }

    private static void bytesStay(Due due) {
        LineFrames x = new LineFrames(0);
        Due.feedAll(x, Due.bytes(BEGIN + "00D9"));
        due.same("read()", x.read(), -3);
        due.same("told(4)", x.told(4), 4);
        due.same("read() again", x.read(), -3);
        due.same("told(5) again", x.told(5), 2);
        int[] want = {255, 0xD8, 0, 0xD9};
        for (int i = 0; i < 4; i++) {
            due.same("byte " + i, x.alter(i, want[i]), want[i]);
        }
        LineFrames y = new LineFrames(0);
        y.picture(1, 1, 2, 1);
        y.write(0);
        y.pass(0, 6000);
        for (int round = 0; round < 3; round++) {
            due.same("read() of a whole one", y.read(), 1);
            due.same("told(4) of a whole one", y.told(4), 28);
            due.same("told(7) of a whole one", y.told(7), 1);
        }
        y.alter(27, 0);
        due.same("read() of an altered one", y.read(), -27);
        y.alter(27, 0xD9);
        due.same("read() of a mended one", y.read(), 1);
        due.same("told(5) of a mended one", y.told(5), 0);
    }

    private static void fromPlace0(Due due) {
        LineFrames x = new LineFrames(0);
        x.picture(1, 1, 2, 1);
        x.write(0);
        x.feed(0);
        x.pass(0, 6000);
        due.same("read() behind a byte", x.read(), -1);
        due.same("told(5)", x.told(5), 2);
        x.drop();
        x.pass(0, 6000);
        due.same("read() from place 0", x.read(), 1);
        x.pass(0, 6000);
        due.same("read() of two streams", x.read(), -29);
        due.same("told(5) of two streams", x.told(5), 9);
    }

    private static void firstFault(Due due) {
        // A wrong NEAR, and wrong data behind it.
        broken(due, BEGIN + Parts.frame(1, 1, 2, 1), Parts.scan(4, 0, 1) + "81", 4);
        // A wrong first mark, and a wrong frame.
        broken(due, "", "FFD7" + Parts.frame(0, 0, 0, 0), 2);
        // Too many notes before a wrong frame.
        broken(due, BEGIN + "FFE00002".repeat(6), "FFE00002" + Parts.frame(13, 1, 2, 1), 4);
        // A bit that fills before a wrong mark.
        broken(due, BEGIN + Parts.frame(1, 1, 2, 1) + Parts.scan(0, 0, 1), "81 0000", 7);
    }

    /** Each beginning of a stream with all that a stream may have lacks a byte at its end. */
    private static void everyCut(Due due) {
        for (int turn = 0; turn <= 2; turn++) {
            LineFrames x = new LineFrames(turn);
            x.picture(8, 2, 2, 2);
            x.preset(1, 1);
            x.preset(2, 1);
            x.table(1, 2, 3);
            x.note(7);
            x.byteOf(0, 1);
            int size = x.write(0);
            LineFrames y = new LineFrames(0);
            for (int i = 0; i < size; i++) {
                due.same("read() of " + i + " bytes", y.read(), -1 - i);
                due.same("told(5) of " + i + " bytes", y.told(5), 1);
                y.feed(x.byteAt(i));
            }
            due.same("read() of all", y.read(), 2);
        }
    }

    // ---- bits

    private static void bits(Edges edges) {
        edges.edge(13, "128 or more behind a 255", ReadEdges::markLike);
        edges.edge(13, "a bit that fills and is not 0", ReadEdges::fillingBits);
        edges.edge(13, "a byte behind a 255 at the end that is not 0", ReadEdges::byteAtTheEnd);
        edges.edge(13, "the 21st bit 0 of a sample.", ReadEdges::bit21);
        edges.edge(13, "DATA: 1: a byte is wanted, and there is none (place: as many as there are); 7, at the byte at "
                + "which that is", ReadEdges::noByte);
    }

    private static void markLike(Due due) {
        String nine = ones(9, 1);
        due.reading(nine + "FF40" + END, 1, 0, 0, 1);
        for (String b : new String[] {"80", "C0", "D0", "D9", "FF"}) {
            broken(due, nine + "FF", b + END, 7);
        }
        // 127, the last that is taken: fifteen bits 1, and then a byte that begins with a bit that tells.
        due.reading(ones(5, 3) + "FF7F" + END, 1, 0, 0, 1);
        due.reading(ones(8, 2) + "FF7F80" + END, 1, 0, 0, 1);
        due.reading(ones(12, 2) + "FF7FFF40" + END, 1, 0, 0, 1);
        broken(due, ones(12, 2) + "FF7FFF", "80" + END, 7);
        // 254 is no 255.
        due.reading(ones(7, 1) + "FE" + END, 1, 0, 0, 1);
        String least = BEGIN + Parts.frame(2, 1, 8, 1) + Parts.presets(64, 255) + Parts.scan(0, 0, 1);
        due.reading(least + Parts.bits("1 11111101 1 00000001") + END, 1, 0, 0, 1);
    }

    private static void fillingBits(Due due) {
        String seven = ones(7, 1);
        due.reading(seven + "FE" + END, 1, 0, 0, 1);
        broken(due, seven, "FF" + END, 7);
        broken(due, seven, "FF00" + END, 7);
        String one = ones(1, 1);
        due.reading(one + "80" + END, 1, 0, 0, 1);
        for (int bit = 0; bit < 7; bit++) {
            broken(due, one, String.format("%02X", 128 + (1 << bit)) + END, 7);
        }
        // A byte behind a 255 that is filled, and one that tells seven bits and is full.
        String nine = ones(9, 1);
        for (int bit = 0; bit < 6; bit++) {
            broken(due, nine + "FF", String.format("%02X", 64 + (1 << bit)) + END, 7);
        }
        due.reading(ones(5, 3) + "FF7F" + END, 1, 0, 0, 1);
    }

    private static void byteAtTheEnd(Due due) {
        String eight = ones(8, 1);
        due.reading(eight + "FF00" + END, 1, 0, 0, 1);
        for (String b : new String[] {"01", "40", "7F", "80", "FF"}) {
            broken(due, eight + "FF", b + END, 7);
        }
        cut(due, eight + "FF");
        // Without a 255 at the end there is no such byte.
        due.reading(ones(7, 1) + "FE00" + END, -1 - Parts.size(ones(7, 1) + "FE"), 2, 0, 1);
        due.reading(ones(5, 3) + "FF7F00" + END, -1 - Parts.size(ones(5, 3) + "FF7F"), 2, 0, 1);
        // Before a restart.
        String rows = BEGIN + Parts.frame(8, 2, 2, 1) + Parts.presets(64, 1) + Parts.restart(1)
                + Parts.scan(0, 0, 1);
        due.reading(rows + "FF00FFD0FF00" + END, 1, 0, 1, 1);
        broken(due, rows + "FF", "01FFD0FF00" + END, 7);
        broken(due, rows + "FF", "FFD0FF00" + END, 7);
        cut(due, rows + "FF");
        due.reading(rows + "FF00FFD0FF01", -1 - Parts.size(rows + "FF00FFD0FF"), 7, 1, 0);
    }

    private static void bit21(Due due) {
        String head = BEGIN + Parts.frame(1, 1, 8, 1) + Parts.presets(64, 1) + Parts.scan(0, 0, 1);
        // 19 and 20 bits 0 are taken.
        due.reading(head + Parts.bits("0".repeat(19) + "1") + END, 1, 0, 0, 1);
        due.reading(head + Parts.bits("0".repeat(20) + "1 000010100") + END, 1, 0, 0, 1);
        broken(due, head + "0000", "07" + END, 7);
        broken(due, head + "0000", "00" + END, 7);
        broken(due, head + "0000", "07", 7);
        // The 21st is the first bit of a byte, or the last one.
        String two = BEGIN + Parts.frame(2, 1, 8, 1) + Parts.scan(0, 0, 1);
        cut(due, two + Parts.bits("0100" + "0".repeat(20)));
        broken(due, two + Parts.bits("0100" + "0".repeat(20)), "7F", 7);
        String four = BEGIN + Parts.frame(4, 1, 8, 1) + Parts.presets(64, 1) + Parts.scan(0, 0, 1);
        broken(due, four + "E000", "00", 7);
        broken(due, four + "E000", "0080", 7);
        cut(due, four + "E00001");
        String three = BEGIN + Parts.frame(3, 1, 8, 1) + Parts.presets(64, 1) + Parts.scan(0, 0, 1);
        broken(due, three + "C000", "00", 7);
        broken(due, three + "C000", "01", 7);
        due.reading(three + "C000" + Parts.bits("000000 1 000000000") + END, 1, 0, 0, 1);
    }

    private static void noByte(Due due) {
        String head = BEGIN + Parts.frame(2, 1, 2, 1) + Parts.scan(0, 0, 1);
        cut(due, head);
        cut(due, head + "00");
        cut(due, head + "0000");
        // The first sample is there; of the second one the 1 lacks, or the bits behind it.
        cut(due, head + Parts.bits("00001 00 0"));
        cut(due, head + Parts.bits("0000001 0"));
        cut(due, head + Parts.bits("000000001 00 00000"));
        due.reading(head + "90" + END, 1, 0, 0, 1);
    }

    // ---- restarts

    private static void restarts(Edges edges) {
        edges.edge(13, "Where a restart must stand: 1, or 8 (at it): another one.", ReadEdges::restartMarks);
        edges.edge(13, "the MARK D0 and how many restarts there were in this SCAN, modulo 8", ReadEdges::wrapAround);
        edges.edge(13, "(where rows or samples take turns, a row of all components is one) but the last ones",
                ReadEdges::rowsOfAll);
        edges.edge(13, "behind it all A, N are as at first, and the next row is a first one.",
                ReadEdges::asAtFirst);
    }

    private static String column(int rows, int restart) {
        return BEGIN + Parts.frame(1, rows, 2, 1) + Parts.restart(restart) + Parts.scan(0, 0, 1);
    }

    private static void restartMarks(Due due) {
        String head = column(2, 1) + "80";
        due.reading(head + "FFD080" + END, 1, 0, 1, 1);
        cut(due, head);
        cut(due, head + "FF");
        cut(due, head + "00");
        for (String other : new String[] {"FFD1", "FFD7", "FFCF", "FFD8", "FFD9", "FF00", "00D0", "FED0", "8080"}) {
            broken(due, head, other + "80" + END, 8);
        }
        // A bit that fills is met before.
        broken(due, column(2, 1), "81FFD080", 7);
        // None stands behind the last rows, and none where there is no RESTART.
        due.reading(head + "FFD080FFD1", -1 - Parts.size(head + "FFD080"), 2, 1, 1);
        due.reading(column(2, 0) + "90" + END, 1, 0, 0, 1);
        due.reading(column(2, 0) + "90FFD0" + END, -1 - Parts.size(column(2, 0)) - 1, 2, 0, 1);
        String later = column(2, 12) + "90";
        due.reading(later + END, 1, 0, 0, 1);
        due.reading(later + "FFD0", -1 - Parts.size(later), 2, 0, 1);
    }

    private static void wrapAround(Due due) {
        StringBuilder text = new StringBuilder(column(12, 1));
        for (int row = 0; row < 11; row++) {
            text.append("80");
            String before = text.toString();
            int another = row < 8 ? 0xD0 + (row + 1) % 8 : 0xD0 + row;
            due.reading(before + String.format("FF%02X", another), -1 - Parts.size(before), 8, row, 0);
            text.append(String.format("FF%02X", 0xD0 + row % 8));
            due.reading(text.toString(), -1 - Parts.size(text.toString()), 1, row + 1, 0);
        }
        due.reading(text + "80" + END, 1, 0, 11, 1);
        String two = BEGIN + Parts.frame(1, 2, 2, 2) + Parts.restart(1) + Parts.scan(0, 0, 1) + "80FFD080";
        due.reading(two + Parts.scan(0, 0, 2) + "80FFD080" + END, 2, 0, 2, 2);
        String second = two + Parts.scan(0, 0, 2) + "80";
        due.reading(second + "FFD180" + END, -1 - Parts.size(second), 8, 1, 1);
    }

    private static void rowsOfAll(Due due) {
        for (int turn = 1; turn <= 2; turn++) {
            String head = BEGIN + Parts.frame(1, 3, 2, 4) + Parts.restart(2) + Parts.scan(0, turn, 1, 2, 3, 4);
            String rows = Parts.bits("100 100 100 100 10 10 10 10") + "FFD0" + Parts.bits("100 100 100 100");
            due.reading(head + rows + END, 4, 0, 1, 1);
        }
    }

    private static void asAtFirst(Due due) {
        LineFrames x = new LineFrames(0);
        Due.feedAll(x, Due.bytes(BEGIN + Parts.frame(2, 2, 2, 1) + Parts.restart(1) + Parts.scan(0, 0, 1)
                + Parts.bits("110 100") + "FFD0" + Parts.bits("110 100") + END));
        due.same("read()", x.read(), 1);
        for (int i = 0; i < 4; i++) {
            due.same("sample " + i, x.at(0, i % 2, i / 2, false), 1);
        }
    }

    // ---- samples read back

    private static void samples(Edges edges) {
        edges.edge(13, "left of it (a; in column 0: b)", ReadEdges::firstColumn);
        edges.edge(13, "The ERROR is m / 2, or -(m + 1) / 2 if m is odd.", ReadEdges::errors);
        edges.edge(13, "if that is below -NEAR, STEP times RANGE more", ReadEdges::belowNear);
        edges.edge(13, "if above TOP + NEAR, so much less", ReadEdges::aboveTop);
        edges.edge(13, "so much less; then brought to 0 .. TOP.", ReadEdges::broughtToBounds);
        edges.edge(13, "(12 at most)", ReadEdges::twelveAtMost);
        edges.edge(13, "Read back, a sample is what was foretold and STEP times the ERROR", ReadEdges::readBack);
    }

    /** The samples of one row of BITS bits, told by these bits. */
    private static void row(Due due, int bits, int start, int near, String code, int... want) {
        LineFrames x = new LineFrames(0);
        Due.feedAll(x, Due.bytes(BEGIN + Parts.frame(want.length, 1, bits, 1) + Parts.presets(64, start)
                + Parts.scan(near, 0, 1) + Parts.bits(code) + END));
        due.same("read() of " + code, x.read(), 1);
        for (int i = 0; i < want.length; i++) {
            due.same("sample " + i + " of " + code, x.at(0, i, 0, false), want[i]);
        }
    }

    /** The last column of the row above is not left of the first one. */
    private static void firstColumn(Due due) {
        LineFrames x = new LineFrames(0);
        Due.feedAll(x, Due.bytes(BEGIN + Parts.frame(12, 2, 4, 1) + Parts.scan(0, 0, 1) + "95FE000FFF40" + END));
        due.same("read()", x.read(), 1);
        for (int i = 0; i < 24; i++) {
            due.same("sample " + i, x.at(0, i % 12, i / 12, false), i % 12 == 11 ? 9 : 0);
        }
    }

    private static void errors(Due due) {
        int[] samples = {0, 255, 1, 254, 2};
        String[] codes = {"100", "101", "110", "111", "0100"};
        for (int i = 0; i < samples.length; i++) {
            row(due, 8, 4, 0, codes[i], samples[i]);
        }
        row(due, 8, 1, 0, "0".repeat(20) + "1 011111110", 127);
        row(due, 8, 1, 0, "0".repeat(20) + "1 011111111", 128);
    }

    /** By NEAR 1, STEP 3 and BITS 3 RANGE is 4: 12 more. */
    private static void belowNear(Due due) {
        // BITS 2, NEAR 0: -1 becomes 3.
        row(due, 2, 4, 0, "101", 3);
        // -3 is below -1: 9, brought to 7.
        row(due, 3, 4, 1, "101", 7);
        // 7 (told as 9, brought to it), then 2 steps less is 1; then 1 step less is -2, below -1: 10.
        row(due, 3, 4, 1, "101 111 101", 7, 1, 7);
        // By NEAR 2, STEP 5 and BITS 2: 3, then 1 step less is -2, which is not below -2: brought to 0.
        row(due, 2, 4, 2, "101 101", 3, 0);
        // By NEAR 3, STEP 7: 1 step less than 3 is -4, below -3: 14 more is 10, brought to 3.
        row(due, 2, 4, 3, "101 101", 3, 3);
    }

    /** By NEAR 0 and BITS 2 RANGE is 4. */
    private static void aboveTop(Due due) {
        // 3, then 1 more is 4, above 3: 0.
        row(due, 2, 4, 0, "101 110", 3, 0);
        // By NEAR 1, BITS 3: 6, then 9 is above 8: 12 less is -3, brought to 0.
        row(due, 3, 4, 1, "0100 110", 6, 0);
        // By NEAR 2, BITS 2: 0 and 5 is not above 5: brought to 3.
        row(due, 2, 4, 2, "110", 3);
        // Then 3 and 5 is 8, above 5: 10 less is -2, brought to 0.
        row(due, 2, 4, 2, "110 110", 3, 0);
    }

    /** By BITS 2 and NEAR 0 an ERROR far from any RANGE is still below 0 or above TOP behind the 4. */
    private static void broughtToBounds(Due due) {
        String zeros = "0".repeat(20) + "1 ";
        // m 511 is -256; m 510 is 255; m 8 is 4, which becomes 0; m 10 is 5, which becomes 1.
        row(due, 2, 4, 0, zeros + "111111111", 0);
        row(due, 2, 4, 0, zeros + "111111110", 3);
        row(due, 2, 4, 0, zeros + "000001000", 0);
        row(due, 2, 4, 0, zeros + "000001010", 1);
        // m 7 is -4, which becomes 0; m 9 is -5, which becomes -1, brought to 0.
        row(due, 2, 4, 0, zeros + "000000111", 0);
        row(due, 2, 4, 0, zeros + "000001001", 0);
        row(due, 2, 4, 0, zeros + "000000101", 1);
    }

    /** By k 8 an ERROR of -2560, so by k 11 one of -19968; then N 3 and A 22783 would want k 13. */
    private static void twelveAtMost(Due due) {
        LineFrames x = new LineFrames(0);
        String first = "0".repeat(19) + "1 11111111";
        String second = "0".repeat(19) + "1 01111111111";
        Due.feedAll(x, Due.bytes(BEGIN + Parts.frame(3, 1, 8, 1) + Parts.presets(64, 255) + Parts.scan(0, 0, 1)
                + Parts.bits(first + second + "1 000000000100") + END));
        due.same("read()", x.read(), 1);
        due.same("the sample by k 8", x.at(0, 0, 0, false), 0);
        due.same("the sample by k 11", x.at(0, 1, 0, false), 0);
        due.same("the sample by k 12", x.at(0, 2, 0, false), 2);
    }

    /** By NEAR 0 each sample comes back, by NEAR 3 one that is at most 3 off. */
    private static void readBack(Due due) {
        int[][] shapes = {{1, 1}, {12, 1}, {1, 12}, {12, 12}};
        for (int[] shape : shapes) {
            for (int near = 0; near <= 3; near++) {
                for (int bits = 2; bits <= 8; bits++) {
                    comesBack(due, shape[0], shape[1], bits, near);
                }
            }
        }
    }

    private static void comesBack(Due due, int width, int height, int bits, int near) {
        LineFrames x = new LineFrames(0);
        x.picture(width, height, bits, 1);
        int top = (1 << bits) - 1;
        for (int i = 0; i < width * height; i++) {
            x.put(0, i % width, i / width, i % 3 == 0 ? top : i % 5 == 0 ? 0 : i * 37 % (top + 1));
        }
        x.write(near);
        x.pass(0, 6000);
        due.same("read() of BITS " + bits, x.read(), 1);
        for (int i = 0; i < width * height; i++) {
            int v = i % 3 == 0 ? top : i % 5 == 0 ? 0 : i * 37 % (top + 1);
            int off = Math.abs(x.at(0, i % width, i / width, false) - v);
            if (off > near) {
                due.fault("sample " + i + " of BITS " + bits + " is " + off + " off by NEAR " + near);
            }
        }
    }
}
