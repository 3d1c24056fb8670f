/** Boundary cases of promise 8 in the data of a scan: foretelling, errors, bits, restarts. */
final class DataEdges {
    private DataEdges() {
    }

    static void all(Edges edges) {
        foretelling(edges);
        errors(edges);
        codes(edges);
        bits(edges);
        restarts(edges);
    }

    /** A picture of one component, its samples row by row. */
    private static LineFrames picture(int width, int bits, int start, int... samples) {
        LineFrames x = new LineFrames(0);
        x.picture(width, samples.length / width, bits, 1);
        x.preset(1, start);
        for (int i = 0; i < samples.length; i++) {
            x.put(0, i % width, i / width, samples[i]);
        }
        return x;
    }

    private static String due(int width, int height, int bits, int reset, int start, int near, String data) {
        String presets = reset == 64 && start == 4 ? "" : Parts.presets(reset, start);
        return Parts.BEGIN + Parts.frame(width, height, bits, 1) + presets + Parts.scan(near, 0, 1) + data
                + Parts.END;
    }

    /** The samples of one row are told by these bytes. */
    private static void row(Due due, int bits, int start, int near, String data, int... samples) {
        LineFrames x = picture(samples.length, bits, start, samples);
        x.write(near);
        due.stream("samples " + java.util.Arrays.toString(samples) + " by NEAR " + near, x,
                due(samples.length, 1, bits, 64, start, near, data));
    }

    private static void square(Due due, String bits, int... samples) {
        LineFrames x = picture(2, 4, 1, samples);
        x.write(0);
        due.stream("samples " + java.util.Arrays.toString(samples), x, due(2, 2, 4, 64, 1, 0, Parts.bits(bits)));
    }

    // ---- what is foretold

    private static void foretelling(Edges edges) {
        edges.edge(8, "left of it (a; in column 0: b)", DataEdges::firstColumn);
        edges.edge(8, "above it (b; in a first row 0)", DataEdges::firstRow);
        edges.edge(8, "left above (c; in column 0: b, else in a first row 0)", DataEdges::leftAbove);
        edges.edge(8, "the lesser of a and b, if c is not below both", DataEdges::lesser);
        edges.edge(8, "the greater one, if c is not above both", DataEdges::greater);
        edges.edge(8, "else a + b - c.", DataEdges::between);
        edges.edge(8, "For each component there are a sum A and a number N, at first START and 1",
                DataEdges::eachForItself);
        edges.edge(8, "and what its samples are told as.", DataEdges::toldAs);
    }

    /** 5 by k 0; then what is above it: 0 more by A 6, N 2, k 2. */
    private static void firstColumn(Due due) {
        LineFrames x = picture(1, 4, 1, 5, 5);
        x.write(0);
        due.stream("5 below 5", x, due(1, 2, 4, 64, 1, 0, Parts.bits("00000000001 100")));
        LineFrames last = picture(1, 2, 4, 0, 0, 0, 0, 0, 0, 0, 0, 0, 0, 2, 2);
        last.write(0);
        // k is 2, 1, 1 and then 0; 2 is told as -2 of a RANGE of 4; then A 6, N 12.
        due.stream("the last row of twelve", last,
                due(1, 12, 2, 64, 4, 0, Parts.bits("100 10 10 1 1 1 1 1 1 1 0001 1")));
        // The last column of the row above is not left of the first one.
        LineFrames wide = new LineFrames(0);
        wide.picture(12, 2, 4, 1);
        wide.put(0, 11, 0, 9);
        wide.put(0, 11, 1, 9);
        wide.write(0);
        due.stream("two rows of twelve", wide, due(12, 2, 4, 64, 4, 0, "95FE000FFF40"));
    }

    /** The first sample is foretold 0, the others as what is left of them. */
    private static void firstRow(Due due) {
        row(due, 4, 1, 0, Parts.bits("00000000001 100 10 10"), 5, 5, 5, 5);
        row(due, 4, 4, 0, Parts.bits("100 10 10 1 1 1 1 1 1 1 1 001"), 0, 0, 0, 0, 0, 0, 0, 0, 0, 0, 0, 1);
    }

    /** In column 0 of the second row c counts as b: by 0 it would be 5 and 5 less 0. */
    private static void leftAbove(Due due) {
        square(due, "00000000001 100 10 10", 5, 5, 5, 5);
        square(due, "1 1 1 1", 0, 0, 0, 0);
    }

    private static void lesser(Due due) {
        square(due, "00000000000001 00111 1101 1000", 9, 3, 6, 3);
        square(due, "00000000000001 0101 00111 1000", 9, 6, 3, 3);
        square(due, "0000000000001 0101 100 100", 6, 3, 6, 3);
    }

    private static void greater(Due due) {
        square(due, "001 00001 0000010 100", 1, 3, 6, 6);
        square(due, "001 00000000001 0100 100", 1, 6, 3, 6);
        square(due, "0000001 10 00010 10", 3, 3, 6, 6);
    }

    private static void between(Due due) {
        square(due, "000000001 101 0010 10", 4, 3, 6, 5);
        square(due, "000000001 0100 101 10", 4, 6, 3, 5);
    }

    /** 0 and 1 by START 8, k 3; behind the 0 of the same component k would be 2. */
    private static void eachForItself(Due due) {
        for (int turn = 0; turn <= 2; turn++) {
            LineFrames x = new LineFrames(turn);
            x.picture(1, 1, 4, 2);
            x.preset(1, 8);
            x.put(1, 0, 0, 1);
            x.write(0);
            String scans = turn == 0
                    ? Parts.scan(0, 0, 1) + Parts.bits("1000") + Parts.scan(0, 0, 2) + Parts.bits("1010")
                    : Parts.scan(0, turn, 1, 2) + Parts.bits("1000 1010");
            due.stream("0 and 1 by TURN " + turn, x, Parts.BEGIN + Parts.frame(1, 1, 4, 2) + Parts.presets(64, 8)
                    + scans + Parts.END);
        }
    }

    /** By NEAR 1 the sample 10 is told as 9: so 8 is near enough, though 10 would want an error. */
    private static void toldAs(Due due) {
        row(due, 8, 4, 1, Parts.bits("0110 100"), 10, 8);
    }

    // ---- errors

    private static void errors(Edges edges) {
        edges.edge(8, "if above 0: it and NEAR, by STEP, rounded down; else as much below 0 by what it is less",
                DataEdges::roundedByStep);
        edges.edge(8, "brought to 0 .. TOP; then the ERROR", DataEdges::broughtToBounds);
        edges.edge(8, "the ERROR gets RANGE more if below 0, and then RANGE less if not below (RANGE + 1) / 2, "
                + "rounded down.", DataEdges::turnedByRange);
        edges.edge(8, "RANGE (TOP + 2 NEAR) / STEP, rounded down, and 1", DataEdges::oddRange);
        edges.edge(8, "m: 2 ERROR, or -2 ERROR - 1 if below 0", DataEdges::signs);
    }

    /** The first sample is told as itself: by NEAR 1 9 is 3 steps of 3, by NEAR 3 14 is 2 steps of 7. */
    private static void roundedByStep(Due due) {
        int[] more = {-5, -4, -2, -1, 0, 1, 2, 4, 5};
        String[] codes = {"111", "101", "101", "100", "100", "100", "110", "110", "0100"};
        for (int i = 0; i < more.length; i++) {
            row(due, 8, 4, 1, Parts.bits("0110" + codes[i]), 9, 9 + more[i]);
        }
        int[] far = {-11, -10, -4, -3, 3, 4, 10, 11};
        String[] farCodes = {"111", "101", "101", "100", "100", "110", "110", "0100"};
        for (int i = 0; i < far.length; i++) {
            row(due, 8, 4, 3, Parts.bits("0100" + farCodes[i]), 14, 14 + far[i]);
        }
    }

    /** By NEAR 2, STEP 5, RANGE 2: 3 is told as 5, brought to 3; then 0 as -2, brought to 0. */
    private static void broughtToBounds(Due due) {
        row(due, 2, 4, 2, Parts.bits("101 100"), 3, 2);
        row(due, 2, 4, 2, Parts.bits("101 101 10"), 3, 0, 1);
    }

    /** By START 255 k is 8: a 1 and m in eight bits. */
    private static void turnedByRange(Due due) {
        row(due, 8, 255, 0, "FF00", 127);
        row(due, 8, 255, 0, "FF40", 128);
        row(due, 8, 255, 0, "FE80", 129);
        row(due, 8, 255, 0, "8080", 255);
        // 0 is 128 less than 128: it is told as -128; 129 less than 129: as 127.
        row(due, 8, 255, 0, "FF7FE0", 128, 0);
        row(due, 8, 255, 0, "FEFF40", 129, 0);
        // RANGE 4: 1 stays, 2 becomes -2, 3 becomes -1.
        row(due, 2, 4, 0, Parts.bits("110"), 1);
        row(due, 2, 4, 0, Parts.bits("111"), 2);
        row(due, 2, 4, 0, Parts.bits("101"), 3);
    }

    /** BITS 3 and NEAR 2: RANGE is 11 by 5 and 1, which is 3: the ERROR 1 is below 2, and stays. */
    private static void oddRange(Due due) {
        row(due, 3, 4, 2, Parts.bits("110"), 7);
        row(due, 3, 4, 2, Parts.bits("110 101"), 7, 0);
        // BITS 2 and NEAR 3: 9 by 7 and 1 is 2.
        row(due, 2, 4, 3, Parts.bits("100"), 3);
        // BITS 2 and NEAR 1: 5 by 3 and 1 is 2: the ERROR 1 is not below 1, and becomes -1.
        row(due, 2, 4, 1, Parts.bits("101"), 3);
    }

    private static void signs(Due due) {
        row(due, 8, 4, 0, Parts.bits("100"), 0);
        row(due, 8, 4, 0, Parts.bits("101"), 255);
        row(due, 8, 4, 0, Parts.bits("110"), 1);
        row(due, 8, 4, 0, Parts.bits("111"), 254);
        row(due, 8, 4, 0, Parts.bits("0100"), 2);
    }

    // ---- how errors are told

    private static void codes(Edges edges) {
        edges.edge(8, "k the least from 0 for which N 2^k is not below A", DataEdges::leastK);
        edges.edge(8, "if m by 2^k, rounded down, is less than 20: so many bits 0, a 1, the k lowest bits of m",
                DataEdges::nineteenZeros);
        edges.edge(8, "else 20 bits 0, a 1, and m in 9 bits.", DataEdges::twentyZeros);
        edges.edge(8, "Then if N is RESET, A and N are halved, rounded down", DataEdges::halves);
        edges.edge(8, "Then if N is RESET, A and N are halved, rounded down; A is more by the ERROR without sign, "
                + "N by 1.", DataEdges::lastResets);
        edges.edge(8, "A is more by the ERROR without sign, N by 1.", DataEdges::withoutSign);
    }

    /** The sample 1 is m 2. */
    private static void leastK(Due due) {
        int[] starts = {1, 2, 3, 5, 8, 9, 16, 17, 32, 33, 64, 65, 128, 129, 255};
        String[] codes = {"001", "010", "110", "1010", "1010", "10010", "10010", "100010", "100010", "1000010",
            "1000010", "10000010", "10000010", "100000010", "100000010"};
        for (int i = 0; i < starts.length; i++) {
            row(due, 8, starts[i], 0, Parts.bits(codes[i]), 1);
        }
        row(due, 8, 4, 0, Parts.bits("110"), 1);
    }

    /** m 19 by k 0, and m 39 by k 1. */
    private static void nineteenZeros(Due due) {
        row(due, 8, 1, 0, Parts.bits("0".repeat(19) + "1"), 246);
        row(due, 8, 2, 0, Parts.bits("0".repeat(19) + "11"), 236);
        row(due, 8, 4, 0, Parts.bits("0".repeat(19) + "111"), 216);
    }

    /** m 20, 254 and 255 by k 0, m 40 by k 1, m 80 by k 2. */
    private static void twentyZeros(Due due) {
        String zeros = "0".repeat(20) + "1";
        row(due, 8, 1, 0, Parts.bits(zeros + "000010100"), 10);
        row(due, 8, 1, 0, Parts.bits(zeros + "011111110"), 127);
        row(due, 8, 1, 0, Parts.bits(zeros + "011111111"), 128);
        row(due, 8, 2, 0, Parts.bits(zeros + "000101000"), 20);
        row(due, 8, 4, 0, Parts.bits(zeros + "001010000"), 40);
    }

    private static void reset(Due due, int reset, int start, String bits, int... samples) {
        LineFrames x = picture(samples.length, 4, start, samples);
        x.preset(0, reset);
        x.write(0);
        due.stream("RESET " + reset, x, due(samples.length, 1, 4, reset, start, 0, Parts.bits(bits)));
    }

    private static void halves(Due due) {
        // A 7, N 1, 2, 3: k 3, 2, 2; halved, A 3, N 2: k 1; N 3: k 0; halved, A 1, N 2: k 0.
        reset(due, 3, 7, "1000 100 100 10 1 1", 0, 0, 0, 0, 0, 0);
        // A 7, N 4: k 1; halved, A 3, N 3: k 0.
        reset(due, 4, 7, "1000 100 100 10 1 1 1", 0, 0, 0, 0, 0, 0, 0);
        // Halved before the ERROR 2 is added: A 5, N 2: k 2.
        reset(due, 3, 7, "1000 100 0100 100", 0, 0, 2, 2);
    }

    /** The halves of RESET 143 tell in the last of 144 samples; those of RESET 144 tell no more. */
    private static void lastResets(Due due) {
        String[] streams = new String[4];
        int[] resets = {143, 144, 145, 255};
        for (int i = 0; i < resets.length; i++) {
            LineFrames x = new LineFrames(0);
            x.picture(12, 12, 8, 1);
            x.put(0, 11, 11, 1);
            x.preset(0, resets[i]);
            x.preset(1, 145);
            x.write(0);
            Reference r = new Reference();
            r.picture(12, 12, 8, 1);
            r.samples[0][11][11] = 1;
            r.reset = resets[i];
            r.start = 145;
            StringBuilder want = new StringBuilder();
            for (int b : Reference.join(r.segments(0, 0))) {
                want.append(String.format("%02X", b));
            }
            due.stream("RESET " + resets[i], x, want.toString());
            String reset = String.format("FFF8000501%02X91", resets[i]);
            streams[i] = Due.written(x).replace(reset, "");
        }
        due.same("RESET 143 is as 144", streams[0].equals(streams[1]) ? 1 : 0, 0);
        due.same("RESET 144 is as 145", streams[1].equals(streams[2]) ? 1 : 0, 1);
        due.same("RESET 144 is as 255", streams[1].equals(streams[3]) ? 1 : 0, 1);
    }

    /** 14 is told as -2: A 3, N 2: k 1. */
    private static void withoutSign(Due due) {
        row(due, 4, 1, 0, Parts.bits("0001 10"), 14, 14);
        row(due, 4, 1, 0, Parts.bits("00001 10"), 2, 2);
    }

    // ---- bits

    private static void bits(Edges edges) {
        edges.edge(8, "BITS go into bytes from the highest on", DataEdges::fromTheHighest);
        edges.edge(8, "a byte behind a 255 begins with a 0 that tells nothing.", DataEdges::behind255);
        edges.edge(8, "At the end of a SCAN, and at a restart, the byte is filled with bits 0", DataEdges::filled);
        edges.edge(8, "if the last byte is 255 then, one of 0 follows.", DataEdges::last255);
    }

    /** By START 1 each sample 0 is one bit 1. */
    private static void zeros(Due due, int width, int height, String data) {
        LineFrames x = new LineFrames(0);
        x.picture(width, height, 2, 1);
        x.preset(1, 1);
        x.write(0);
        due.stream(width * height + " bits 1", x, due(width, height, 2, 64, 1, 0, data));
    }

    private static void fromTheHighest(Due due) {
        zeros(due, 1, 1, "80");
        zeros(due, 2, 1, "C0");
        row(due, 2, 1, 0, "20", 1);
    }

    private static void behind255(Due due) {
        zeros(due, 9, 1, "FF40");
        zeros(due, 7, 2, "FF7E");
        zeros(due, 5, 3, "FF7F");
        zeros(due, 8, 2, "FF7F80");
        zeros(due, 11, 2, "FF7FFE");
        zeros(due, 12, 2, "FF7FFF40");
        row(due, 8, 255, 0, "FF00", 127);
    }

    private static void filled(Due due) {
        zeros(due, 7, 1, "FE");
        zeros(due, 9, 1, "FF40");
        restarted(due, 7, "FE FFD0 FE");
        restarted(due, 9, "FF40 FFD0 FF40");
        // k 2, 2, 1: eight bits, and none to fill.
        row(due, 2, 4, 0, Parts.bits("101 101 10"), 3, 2, 2);
    }

    private static void restarted(Due due, int width, String data) {
        LineFrames x = new LineFrames(0);
        x.picture(width, 2, 2, 1);
        x.preset(1, 1);
        x.preset(2, 1);
        x.write(0);
        due.stream("two rows of " + width, x, Parts.BEGIN + Parts.frame(width, 2, 2, 1) + Parts.presets(64, 1)
                + Parts.restart(1) + Parts.scan(0, 0, 1) + data + Parts.END);
    }

    private static void last255(Due due) {
        zeros(due, 8, 1, "FF00");
        zeros(due, 4, 2, "FF00");
        zeros(due, 5, 3, "FF7F");
        restarted(due, 8, "FF00 FFD0 FF00");
        for (int turn = 1; turn <= 2; turn++) {
            LineFrames x = new LineFrames(turn);
            x.picture(7, 7, 2, 2);
            x.preset(1, 1);
            x.write(0);
            due.stream("98 bits 1", x, Parts.BEGIN + Parts.frame(7, 7, 2, 2) + Parts.presets(64, 1)
                    + Parts.scan(0, turn, 1, 2) + "FF7F".repeat(6) + "FF00" + Parts.END);
        }
        LineFrames y = new LineFrames(0);
        y.picture(8, 1, 2, 2);
        y.preset(1, 1);
        y.write(0);
        due.stream("a SCAN behind a last 255", y, Parts.BEGIN + Parts.frame(8, 1, 2, 2) + Parts.presets(64, 1)
                + Parts.scan(0, 0, 1) + "FF00" + Parts.scan(0, 0, 2) + "FF00" + Parts.END);
    }

    // ---- restarts

    private static void restarts(Edges edges) {
        edges.edge(8, "A RESTART comes behind each so many rows", DataEdges::eachSoManyRows);
        edges.edge(8, "but the last ones", DataEdges::notBehindTheLast);
        edges.edge(8, "(where rows or samples take turns, a row of all components is one)", DataEdges::rowOfAll);
        edges.edge(8, "the MARK D0 and how many restarts there were in this SCAN, modulo 8", DataEdges::marks);
        edges.edge(8, "in this SCAN, modulo 8", DataEdges::marksOfEachScan);
        edges.edge(8, "behind it all A, N are as at first, and the next row is a first one.", DataEdges::asAtFirst);
        edges.edge(8, "by TURN 1 each row of each component in turn, by TURN 2 each sample of each in turn.",
                DataEdges::turns);
    }

    /** One column of so many rows of 0: k 2, then 1, 1, 0. */
    private static void column(Due due, int rows, int restart, String data) {
        LineFrames x = new LineFrames(0);
        x.picture(1, rows, 2, 1);
        x.preset(2, restart);
        x.write(0);
        due.stream(rows + " rows by RESTART " + restart, x, Parts.BEGIN + Parts.frame(1, rows, 2, 1)
                + (restart == 0 ? "" : Parts.restart(restart)) + Parts.scan(0, 0, 1) + data + Parts.END);
    }

    private static void eachSoManyRows(Due due) {
        column(due, 2, 0, "90");
        column(due, 2, 1, "80 FFD0 80");
        column(due, 5, 2, "90 FFD0 90 FFD1 80");
        column(due, 12, 11, Parts.bits("100 10 10 11111111") + "FFD0 80");
        column(due, 12, 6, Parts.bits("100 10 10 1 1 1") + "FFD0" + Parts.bits("100 10 10 1 1 1"));
    }

    private static void notBehindTheLast(Due due) {
        column(due, 1, 1, "80");
        column(due, 2, 2, "90");
        column(due, 2, 3, "90");
        column(due, 4, 2, "90 FFD0 90");
        // 16 bits, the last eight of them 1.
        column(due, 12, 12, Parts.bits("100 10 10 111111111") + "00");
        column(due, 2, 12, "90");
    }

    private static void rowOfAll(Due due) {
        for (int turn = 1; turn <= 2; turn++) {
            LineFrames x = new LineFrames(turn);
            x.picture(1, 3, 2, 4);
            x.preset(2, 2);
            x.write(0);
            due.stream("three rows of four components by TURN " + turn, x, Parts.BEGIN + Parts.frame(1, 3, 2, 4)
                    + Parts.restart(2) + Parts.scan(0, turn, 1, 2, 3, 4)
                    + Parts.bits("100 100 100 100 10 10 10 10") + "FFD0" + Parts.bits("100 100 100 100")
                    + Parts.END);
        }
    }

    private static void marks(Due due) {
        column(due, 8, 1, "80 FFD0 80 FFD1 80 FFD2 80 FFD3 80 FFD4 80 FFD5 80 FFD6 80");
        column(due, 9, 1, "80 FFD0 80 FFD1 80 FFD2 80 FFD3 80 FFD4 80 FFD5 80 FFD6 80 FFD7 80");
        column(due, 10, 1, "80 FFD0 80 FFD1 80 FFD2 80 FFD3 80 FFD4 80 FFD5 80 FFD6 80 FFD7 80 FFD0 80");
        column(due, 12, 1, "80 FFD0 80 FFD1 80 FFD2 80 FFD3 80 FFD4 80 FFD5 80 FFD6 80 FFD7 80 FFD0 80 FFD1 80"
                + "FFD2 80");
    }

    private static void marksOfEachScan(Due due) {
        LineFrames x = new LineFrames(0);
        x.picture(1, 3, 2, 2);
        x.preset(2, 1);
        x.write(0);
        due.stream("two SCANS with restarts", x, Parts.BEGIN + Parts.frame(1, 3, 2, 2) + Parts.restart(1)
                + Parts.scan(0, 0, 1) + "80 FFD0 80 FFD1 80" + Parts.scan(0, 0, 2) + "80 FFD0 80 FFD1 80"
                + Parts.END);
    }

    /** Each row is 1, 1: told as 1 for 0 by k 2, and 1 for 1 by A 5, N 2, k 2. */
    private static void asAtFirst(Due due) {
        LineFrames x = picture(2, 2, 4, 1, 1, 1, 1);
        x.preset(2, 1);
        x.write(0);
        due.stream("rows of 1, 1", x, Parts.BEGIN + Parts.frame(2, 2, 2, 1) + Parts.restart(1)
                + Parts.scan(0, 0, 1) + Parts.bits("110 100") + "FFD0" + Parts.bits("110 100") + Parts.END);
        for (int turn = 1; turn <= 2; turn++) {
            LineFrames y = new LineFrames(turn);
            y.picture(1, 2, 2, 4);
            y.preset(2, 1);
            for (int i = 0; i < 8; i++) {
                y.put(i % 4, 0, i / 4, 1);
            }
            y.write(0);
            due.stream("rows of 1 of four components", y, Parts.BEGIN + Parts.frame(1, 2, 2, 4) + Parts.restart(1)
                    + Parts.scan(0, turn, 1, 2, 3, 4) + Parts.bits("110 110 110 110") + "FFD0"
                    + Parts.bits("110 110 110 110") + Parts.END);
        }
    }

    /**
     * Component 0 has the rows 0, 1 and 0, 0: told by k 0 as 1 001 and 1 01 (its last is 0 where 1 is foretold).
     * Component 1 has the rows 0, 0 and 3, 0: told as 1 1 and 01 001 (3 more is told as 1 less, of a RANGE of 4).
     */
    private static void turns(Due due) {
        String[] data = {"", "1 001  1 1  1 01  01 001", "1 1  001 1  1 01  01 001"};
        for (int turn = 1; turn <= 2; turn++) {
            LineFrames x = new LineFrames(turn);
            x.picture(2, 2, 2, 2);
            x.preset(1, 1);
            x.put(0, 1, 0, 1);
            x.put(1, 0, 1, 3);
            x.write(0);
            due.stream("two components by TURN " + turn, x, Parts.BEGIN + Parts.frame(2, 2, 2, 2)
                    + Parts.presets(64, 1) + Parts.scan(0, turn, 1, 2) + Parts.bits(data[turn]) + Parts.END);
        }
    }
}
