/** Boundary cases of promise 8: write, and what is WRITTEN before the data. */
final class WriteEdges {
    private static final int LOW = Integer.MIN_VALUE;
    private static final int HIGH = Integer.MAX_VALUE;
    private static final Class<IllegalStateException> STATE = IllegalStateException.class;
    private static final Class<IllegalArgumentException> ARGUMENT = IllegalArgumentException.class;
    private static final String LEAST_FRAME = Parts.frame(1, 1, 2, 1);
    private static final String LEAST_SCAN = Parts.scan(0, 0, 1) + "80" + Parts.END;

    private WriteEdges() {
    }

    static void all(Edges edges) {
        edges.edge(8, "WRITTEN with NEAR 0 .. 3: how many bytes.", WriteEdges::nears);
        edges.edge(8, "IllegalState: there is no picture", due ->
                due.refused("write(0)", STATE, State::fresh, x -> x.write(0)));
        edges.edge(8, "Of several that a call names, the first one.", WriteEdges::forSeveralReasons);
        edges.edge(8, "A call that throws changes nothing.", WriteEdges::refusedWrites);
        edges.edge(8, "two bytes that say how many bytes come from these two on, and the bytes.",
                WriteEdges::lengths);
        edges.edge(8, "Numbers have one byte, or two (wide), the highest first.", WriteEdges::wideNumbers);
        edges.edge(8, "the NOTES in order: E0 and the kind, or FE for kind 16, with their bytes",
                WriteEdges::notes);
        edges.edge(8, "F7: BITS, height (wide), width (wide), how many components, for each one: its number and 1, "
                + "17, 0", WriteEdges::frames);
        edges.edge(8, "F8, if RESET is not 64 or START is not 4: 1, RESET, START", WriteEdges::presets);
        edges.edge(8, "for each component with a TABLE F8: 2, its number and 1, 2, its numbers (wide)",
                WriteEdges::tables);
        edges.edge(8, "DD, if RESTART is not 0: RESTART (wide)", WriteEdges::restarts);
        edges.edge(8, "and that again if it has a TABLE, else 0", WriteEdges::tablesOfScans);
        edges.edge(8, "NEAR, the TURN (0, if it has one component), 0", WriteEdges::turnOfOne);
        edges.edge(8, "A SCAN has one component (TURN 0, in order; or if there is but one), else all.",
                WriteEdges::componentsOfScans);
        edges.edge(8, "WRITTEN are: D8;", WriteEdges::everythingAtOnce);
    }

    private static LineFrames least(int turn) {
        LineFrames x = new LineFrames(turn);
        x.picture(1, 1, 2, 1);
        return x;
    }

    private static void nears(Due due) {
        LineFrames x = least(0);
        for (int near : new int[] {LOW, -1, 4, HIGH}) {
            due.argument("write(" + near + ")", () -> x.write(near));
            due.same("told(3) behind it", x.told(3), 0);
        }
        for (int near : new int[] {0, 3}) {
            due.same("write(" + near + ")", x.write(near), 28);
            due.stream("NEAR " + near, x, Parts.BEGIN + LEAST_FRAME + Parts.scan(near, 0, 1) + "80" + Parts.END);
        }
    }

    private static void forSeveralReasons(Due due) {
        due.refused("write(-1) without a picture", STATE, State::fresh, x -> x.write(-1));
        due.refused("write(4) without a picture", STATE, State::fresh, x -> x.write(4));
    }

    private static void refusedWrites(Due due) {
        due.refused("write(-1)", ARGUMENT, State::rich, x -> x.write(-1));
        due.refused("write(4)", ARGUMENT, State::rich, x -> x.write(4));
        due.refused("write(4) of a full one", ARGUMENT, State::full, x -> x.write(4));
    }

    private static void lengths(Due due) {
        LineFrames x = least(0);
        x.note(1);
        x.write(0);
        due.stream("a note without bytes", x, Parts.BEGIN + "FFE1 0002" + LEAST_FRAME + LEAST_SCAN);
        x.byteOf(0, 255);
        x.write(0);
        due.stream("a note of one byte", x, Parts.BEGIN + "FFE1 0003 FF" + LEAST_FRAME + LEAST_SCAN);
        for (int i = 1; i < 30; i++) {
            x.byteOf(0, 0);
        }
        x.write(0);
        due.stream("a note of 30 bytes", x, Parts.BEGIN + "FFE1 0020 FF" + "00".repeat(29) + LEAST_FRAME
                + LEAST_SCAN);
        x.picture(1, 1, 8, 1);
        x.table(0, 255, 1);
        x.write(0);
        due.stream("a table of 256 numbers", x, Parts.BEGIN + Parts.frame(1, 1, 8, 1) + "FFF8 0205 02 01 02"
                + "0000".repeat(255) + "0001 FFDA 0008 01 0101 00 00 00 80 FFD9");
    }

    private static void wideNumbers(Due due) {
        LineFrames x = least(0);
        x.table(0, 0, 255);
        x.table(0, 1, 256);
        x.table(0, 2, 65535);
        x.write(0);
        due.stream("255, 256, 65535 and 0", x, Parts.BEGIN + LEAST_FRAME
                + "FFF8 000D 02 01 02 00FF 0100 FFFF 0000 FFDA 0008 01 0101 00 00 00 80 FFD9");
    }

    private static void notes(Due due) {
        LineFrames x = least(0);
        x.write(0);
        due.stream("no note", x, Parts.BEGIN + LEAST_FRAME + LEAST_SCAN);
        int[] kinds = {16, 0, 15, 16, 1, 14};
        for (int n = 0; n < 6; n++) {
            x.note(kinds[n]);
            x.byteOf(n, n);
        }
        x.write(0);
        due.stream("six notes", x, Parts.BEGIN + "FFFE 0003 00 FFE0 0003 01 FFEF 0003 02 FFFE 0003 03"
                + "FFE1 0003 04 FFEE 0003 05" + LEAST_FRAME + LEAST_SCAN);
    }

    private static void frames(Due due) {
        LineFrames x = new LineFrames(1);
        x.picture(12, 1, 8, 4);
        x.write(0);
        due.same("the last byte of F7's number", x.byteAt(5), 20);
        int[] want = {8, 0, 1, 0, 12, 4, 1, 17, 0, 2, 17, 0, 3, 17, 0, 4, 17, 0, 255, 0xDA};
        for (int i = 0; i < want.length; i++) {
            due.same("byteAt(" + (6 + i) + ") of four components", x.byteAt(6 + i), want[i]);
        }
        x.picture(1, 12, 2, 1);
        x.write(0);
        int[] one = {0, 11, 2, 0, 12, 0, 1, 1, 1, 17, 0, 255, 0xDA};
        for (int i = 0; i < one.length; i++) {
            due.same("byteAt(" + (4 + i) + ") of one component", x.byteAt(4 + i), one[i]);
        }
    }

    private static void presets(Due due) {
        int[][] told = {{63, 4}, {65, 4}, {3, 4}, {255, 4}, {64, 3}, {64, 5}, {64, 255}, {3, 3}};
        for (int[] preset : told) {
            LineFrames x = least(0);
            x.preset(0, preset[0]);
            x.preset(1, preset[1]);
            x.write(0);
            String head = Parts.BEGIN + LEAST_FRAME + Parts.presets(preset[0], preset[1]) + Parts.scan(0, 0, 1);
            // The sample 0 is a 1 and as many bits 0 as k has.
            due.stream("RESET " + preset[0] + ", START " + preset[1], x,
                    head + (preset[1] == 255 ? "8000" : "80") + Parts.END);
        }
        LineFrames x = least(0);
        x.preset(0, 63);
        x.preset(1, 5);
        x.preset(0, 64);
        x.preset(1, 4);
        x.write(0);
        due.stream("RESET 64, START 4", x, Parts.BEGIN + LEAST_FRAME + LEAST_SCAN);
    }

    private static void tables(Due due) {
        LineFrames x = new LineFrames(1);
        x.picture(1, 1, 2, 4);
        x.write(0);
        String head = Parts.BEGIN + Parts.frame(1, 1, 2, 4);
        due.stream("no TABLE", x, head + Parts.scan(0, 1, 1, 2, 3, 4) + "9240" + Parts.END);
        x.table(3, 0, 0);
        x.write(0);
        due.stream("a TABLE of 0 alone of the last component", x, head + Parts.table(4, 0, 0, 0, 0)
                + "FFDA 000E 04 0100 0200 0300 0404 00 01 00 9240 FFD9");
        x.table(0, 3, 65535);
        x.write(0);
        due.stream("TABLES of the first and the last one", x, head + Parts.table(1, 0, 0, 0, 65535)
                + Parts.table(4, 0, 0, 0, 0) + "FFDA 000E 04 0101 0200 0300 0404 00 01 00 9240 FFD9");
    }

    private static void restarts(Due due) {
        for (int restart : new int[] {1, 12}) {
            LineFrames x = least(0);
            x.preset(2, restart);
            x.write(0);
            due.stream("RESTART " + restart, x, Parts.BEGIN + LEAST_FRAME + Parts.restart(restart) + LEAST_SCAN);
            x.preset(2, 0);
            x.write(0);
            due.stream("RESTART 0", x, Parts.BEGIN + LEAST_FRAME + LEAST_SCAN);
        }
    }

    private static void tablesOfScans(Due due) {
        LineFrames x = new LineFrames(0);
        x.picture(1, 1, 2, 2);
        x.table(1, 1, 1);
        x.write(0);
        due.stream("a TABLE of the second alone", x, Parts.BEGIN + Parts.frame(1, 1, 2, 2)
                + Parts.table(2, 0, 1, 0, 0) + "FFDA 0008 01 0100 00 00 00 80 FFDA 0008 01 0202 00 00 00 80 FFD9");
    }

    private static void turnOfOne(Due due) {
        for (int turn = 0; turn <= 2; turn++) {
            LineFrames x = least(turn);
            x.write(0);
            due.stream("one component by TURN " + turn, x, Parts.BEGIN + LEAST_FRAME + LEAST_SCAN);
        }
    }

    private static void componentsOfScans(Due due) {
        for (int count = 2; count <= 4; count++) {
            int[] all = {1, 2, 3, 4};
            int[] numbers = java.util.Arrays.copyOf(all, count);
            StringBuilder each = new StringBuilder(Parts.BEGIN + Parts.frame(1, 1, 2, count));
            for (int number : numbers) {
                each.append(Parts.scan(2, 0, number)).append("80");
            }
            LineFrames x = new LineFrames(0);
            x.picture(1, 1, 2, count);
            x.write(2);
            due.stream(count + " components by TURN 0", x, each + Parts.END);
            for (int turn = 1; turn <= 2; turn++) {
                LineFrames y = new LineFrames(turn);
                y.picture(1, 1, 2, count);
                y.write(2);
                due.stream(count + " components by TURN " + turn, y, Parts.BEGIN + Parts.frame(1, 1, 2, count)
                        + Parts.scan(2, turn, numbers) + Parts.bits("100".repeat(count)) + Parts.END);
            }
        }
    }

    private static void everythingAtOnce(Due due) {
        LineFrames x = new LineFrames(2);
        x.picture(1, 2, 2, 2);
        x.preset(2, 1);
        x.table(0, 0, 1);
        x.preset(0, 3);
        x.note(16);
        x.table(1, 0, 2);
        x.write(1);
        due.stream("all parts in their order", x, Parts.BEGIN + "FFFE 0002" + Parts.frame(1, 2, 2, 2)
                + Parts.presets(3, 4) + Parts.table(1, 1, 0, 0, 0) + Parts.table(2, 2, 0, 0, 0) + Parts.restart(1)
                + "FFDA 000A 02 0101 0202 01 02 00 90 FFD0 90 FFD9");
    }
}
