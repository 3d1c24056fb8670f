/** Boundary cases of promises 1 to 5: a new object, picture, put, preset, table. */
final class PictureEdges {
    private static final int LOW = Integer.MIN_VALUE;
    private static final int HIGH = Integer.MAX_VALUE;
    private static final Class<IllegalStateException> STATE = IllegalStateException.class;
    private static final Class<IndexOutOfBoundsException> INDEX = IndexOutOfBoundsException.class;
    private static final Class<IllegalArgumentException> ARGUMENT = IllegalArgumentException.class;
    private static final String NO_PICTURE = "IllegalState: there is no picture";
    private static final String NO_SUCH = "IndexOutOfBounds: there is no such component, sample, note or byte.";
    private static final String ANOTHER = "IllegalArgument: another number is none that is told.";
    private static final String FIRST_ONE = "Of several that a call names, the first one.";
    private static final String NOTHING_CHANGES = "A call that throws changes nothing.";

    private PictureEdges() {
    }

    static void all(Edges edges) {
        newObjects(edges);
        pictures(edges);
        samples(edges);
        presets(edges);
        tables(edges);
    }

    // ---- promise 1

    private static void newObjects(Edges edges) {
        edges.edge(1, "A TURN 0 .. 2 (others count as the nearest of these)", PictureEdges::turnsAreTold);
        edges.edge(1, "It is made with a TURN 0 .. 2 (others count as the nearest of these)",
                PictureEdges::turnsAreWritten);
        edges.edge(1, "there is no picture, nothing is WRITTEN or READ, no bytes came.", PictureEdges::nothingIsThere);
        edges.edge(1, "An object is used for at most 512 calls after it has been made", PictureEdges::lastCall);
    }

    private static void turnsAreTold(Due due) {
        int[][] turns = {{LOW, 0}, {-1, 0}, {0, 0}, {1, 1}, {2, 2}, {3, 2}, {HIGH, 2}};
        for (int[] turn : turns) {
            due.same("told(0) of TURN " + turn[0], new LineFrames(turn[0]).told(0), turn[1]);
        }
    }

    private static void turnsAreWritten(Due due) {
        String head = Parts.BEGIN + Parts.frame(1, 1, 2, 2);
        String first = head + Parts.scan(0, 0, 1) + "80" + Parts.scan(0, 0, 2) + "80" + Parts.END;
        String second = head + Parts.scan(0, 1, 1, 2) + "90" + Parts.END;
        String third = head + Parts.scan(0, 2, 1, 2) + "90" + Parts.END;
        int[] turns = {LOW, -1, 0, 1, 2, 3, HIGH};
        String[] streams = {first, first, first, second, third, third, third};
        for (int i = 0; i < turns.length; i++) {
            LineFrames x = new LineFrames(turns[i]);
            x.picture(1, 1, 2, 2);
            x.write(0);
            due.stream("TURN " + turns[i], x, streams[i]);
        }
    }

    private static void nothingIsThere(Due due) {
        LineFrames x = new LineFrames(0);
        int[] told = {0, 0, 0, 0, 0, 0, 0, 0, -1};
        for (int what = 0; what < told.length; what++) {
            due.same("told(" + what + ")", x.told(what), told[what]);
        }
        due.state("put", () -> x.put(0, 0, 0, 0));
        due.state("write", () -> x.write(0));
        due.index("byteAt", () -> x.byteAt(0));
        due.index("alter", () -> x.alter(0, 0));
        due.state("found", () -> x.found(0));
        due.same("read()", x.read(), -1);
    }

    private static void lastCall(Due due) {
        LineFrames x = new LineFrames(0);
        x.picture(12, 12, 8, 4);
        for (int i = 0; i < 509; i++) {
            x.put(i % 4, i % 12, i / 12 % 12, i % 256);
        }
        x.preset(2, 12);
        due.same("the 512th call", x.preset(2, 0), 12);
    }

    // ---- promise 2

    private static void pictures(Edges edges) {
        edges.edge(2, "A PICTURE has a width and a height, 1 .. 12", PictureEdges::widths);
        edges.edge(2, "A PICTURE has a width and a height, 1 .. 12", PictureEdges::heights);
        edges.edge(2, "BITS 2 .. 8", PictureEdges::bits);
        edges.edge(2, "components 0, 1, .., 1 to 4 of them", PictureEdges::components);
        edges.edge(2, "how many samples.", PictureEdges::howMany);
        edges.edge(2, "samples 0 .. TOP, which is 2 to the BITS less 1; at first 0.", PictureEdges::samplesAtFirst);
        edges.edge(2, "A new PICTURE, without TABLES, NOTES, RESTART, PRESETS as at first",
                PictureEdges::newPicture);
        edges.edge(2, "(what was WRITTEN, came and was READ stays)", PictureEdges::restStays);
        edges.edge(2, NOTHING_CHANGES, PictureEdges::refusedPictures);
    }

    private static void sides(Due due, int[] args, int place, int least, int most) {
        LineFrames x = new LineFrames(0);
        for (int v : new int[] {LOW, least - 1, most + 1, HIGH}) {
            args[place] = v;
            due.argument("picture with " + v, () -> x.picture(args[0], args[1], args[2], args[3]));
            due.same("told(1) behind it", x.told(1), 0);
        }
        for (int v : new int[] {least, most}) {
            args[place] = v;
            due.same("picture with " + v, x.picture(args[0], args[1], args[2], args[3]),
                    args[0] * args[1] * args[3]);
        }
    }

    private static void widths(Due due) {
        sides(due, new int[] {1, 2, 3, 4}, 0, 1, 12);
    }

    private static void heights(Due due) {
        sides(due, new int[] {2, 1, 3, 4}, 1, 1, 12);
    }

    private static void bits(Due due) {
        sides(due, new int[] {2, 3, 2, 4}, 2, 2, 8);
    }

    private static void components(Due due) {
        sides(due, new int[] {2, 3, 8, 1}, 3, 1, 4);
    }

    private static void howMany(Due due) {
        LineFrames x = new LineFrames(2);
        due.same("the least picture", x.picture(1, 1, 2, 1), 1);
        due.same("the largest picture", x.picture(12, 12, 8, 4), 576);
        due.same("told(1)", x.told(1), 4);
        due.same("one column", x.picture(1, 12, 8, 3), 36);
        due.same("one row", x.picture(12, 1, 8, 2), 24);
        due.same("told(1) of the last", x.told(1), 2);
    }

    private static void samplesAtFirst(Due due) {
        LineFrames x = new LineFrames(0);
        for (int round = 0; round < 2; round++) {
            x.picture(12, 12, 8, 4);
            for (int i = 0; i < 16; i++) {
                int side = i / 4 % 2 * 11;
                due.same("a corner of picture " + round, x.put(i % 4, side, i / 8 * 11, 255), 0);
            }
        }
    }

    private static void newPicture(Due due) {
        LineFrames x = State.full();
        x.preset(0, 3);
        x.preset(1, 255);
        x.preset(2, 12);
        x.put(0, 0, 0, 3);
        x.table(0, 0, 1);
        x.table(0, 3, 1);
        x.picture(1, 1, 2, 1);
        x.write(0);
        due.stream("a new picture", x, Parts.BEGIN + Parts.frame(1, 1, 2, 1) + Parts.scan(0, 0, 1) + "80"
                + Parts.END);
        due.same("NOTES", x.told(2), 0);
        due.index("a byte of a note that was", () -> x.byteOf(0, 0));
        due.same("RESET", x.preset(0, 64), 64);
        due.same("START", x.preset(1, 4), 4);
        due.same("RESTART", x.preset(2, 0), 0);
        due.same("TABLE", x.table(0, 1, 5), -1);
        due.same("the first number that an earlier TABLE had", x.table(0, 0, 5), 0);
        due.same("the last number that an earlier TABLE had", x.table(0, 3, 5), 0);
        due.same("the first NOTE", x.note(16), 0);
        due.same("its first byte", x.byteOf(0, 7), 1);
    }

    private static void restStays(Due due) {
        LineFrames x = State.rich();
        LineFrames y = State.rich();
        x.picture(1, 1, 2, 1);
        for (int what = 3; what <= 7; what++) {
            due.same("told(" + what + ")", x.told(what), y.told(what));
        }
        for (int i = 0; i < y.told(3); i++) {
            due.same("byteAt(" + i + ")", x.byteAt(i), y.byteAt(i));
        }
        for (int i = 0; i < y.told(4); i++) {
            due.same("alter(" + i + ", 0)", x.alter(i, 0), y.alter(i, 0));
        }
        for (int what = 0; what <= 9; what++) {
            due.same("found(" + what + ")", x.found(what), y.found(what));
        }
        due.same("at(0, 1, 0, false)", x.at(0, 1, 0, false), 3);
        due.same("at(0, 1, 0, true)", x.at(0, 1, 0, true), 700);
        due.same("noteAt(0, -1)", x.noteAt(0, -1), 16);
    }

    private static void refusedPictures(Due due) {
        int[][] wrong = {{0, 1, 2, 1}, {1, 0, 2, 1}, {1, 1, 1, 1}, {1, 1, 2, 0},
            {13, 1, 2, 1}, {1, 13, 2, 1}, {1, 1, 9, 1}, {1, 1, 2, 5}};
        for (int[] w : wrong) {
            String call = "picture(" + w[0] + ", " + w[1] + ", " + w[2] + ", " + w[3] + ")";
            due.refused(call, ARGUMENT, State::rich, x -> x.picture(w[0], w[1], w[2], w[3]));
            due.refused(call, ARGUMENT, State::full, x -> x.picture(w[0], w[1], w[2], w[3]));
            due.refused(call, ARGUMENT, State::fresh, x -> x.picture(w[0], w[1], w[2], w[3]));
        }
    }

    // ---- promise 3

    private static void samples(Edges edges) {
        edges.edge(3, "samples 0 .. TOP, which is 2 to the BITS less 1", PictureEdges::values);
        edges.edge(3, "A sample becomes v: what it was.", PictureEdges::eachForItself);
        edges.edge(3, NO_SUCH, PictureEdges::noSuchSample);
        edges.edge(3, NO_PICTURE, PictureEdges::putWithoutPicture);
        edges.edge(3, FIRST_ONE, PictureEdges::putForSeveralReasons);
        edges.edge(3, NOTHING_CHANGES, PictureEdges::refusedPuts);
    }

    private static void values(Due due) {
        LineFrames x = new LineFrames(0);
        for (int bits = 2; bits <= 8; bits++) {
            int top = (1 << bits) - 1;
            x.picture(1, 1, bits, 1);
            due.same("put of TOP by BITS " + bits, x.put(0, 0, 0, top), 0);
            for (int v : new int[] {LOW, -1, top + 1, HIGH}) {
                due.argument("put of " + v + " by BITS " + bits, () -> x.put(0, 0, 0, v));
            }
            due.same("put of 0 by BITS " + bits, x.put(0, 0, 0, 0), top);
        }
    }

    /** The corners of the first and of the last component, and their neighbours. */
    private static void eachForItself(Due due) {
        LineFrames x = new LineFrames(0);
        x.picture(12, 12, 8, 4);
        int[] near = {0, 1, 10, 11};
        for (int i = 0; i < 64; i++) {
            due.same("the first put", x.put(i / 16, near[i / 4 % 4], near[i % 4], i + 100), 0);
        }
        for (int i = 0; i < 64; i++) {
            due.same("the second put", x.put(i / 16, near[i / 4 % 4], near[i % 4], 0), i + 100);
        }
    }

    private static void noSuchSample(Due due) {
        LineFrames x = new LineFrames(0);
        x.picture(3, 2, 2, 2);
        due.same("the first sample", x.put(0, 0, 0, 3), 0);
        due.same("the last sample", x.put(1, 2, 1, 3), 0);
        int[][] nowhere = {{-1, 0, 0}, {2, 0, 0}, {0, -1, 0}, {0, 3, 0}, {0, 0, -1}, {0, 0, 2},
            {LOW, 0, 0}, {HIGH, 0, 0}, {0, LOW, 0}, {0, HIGH, 0}, {0, 0, LOW}, {0, 0, HIGH}};
        for (int[] n : nowhere) {
            due.index("put(" + n[0] + ", " + n[1] + ", " + n[2] + ")", () -> x.put(n[0], n[1], n[2], 0));
        }
        x.picture(12, 12, 2, 4);
        due.index("put(4, 0, 0)", () -> x.put(4, 0, 0, 0));
        due.index("put(0, 12, 0)", () -> x.put(0, 12, 0, 0));
        due.index("put(0, 0, 12)", () -> x.put(0, 0, 12, 0));
        due.same("the very last sample", x.put(3, 11, 11, 3), 0);
    }

    private static void putWithoutPicture(Due due) {
        due.refused("put(0, 0, 0, 0)", STATE, State::fresh, x -> x.put(0, 0, 0, 0));
    }

    private static void putForSeveralReasons(Due due) {
        due.refused("no picture, no sample, no value", STATE, State::fresh, x -> x.put(-1, -1, -1, -1));
        due.refused("no picture, no value", STATE, State::fresh, x -> x.put(0, 0, 0, 256));
        due.refused("no component, no value", INDEX, State::rich, x -> x.put(2, 0, 0, 16));
        due.refused("no column, no value", INDEX, State::rich, x -> x.put(0, 3, 0, -1));
        due.refused("no row, no value", INDEX, State::rich, x -> x.put(0, 0, 2, 16));
    }

    private static void refusedPuts(Due due) {
        due.refused("put of a row more", INDEX, State::rich, x -> x.put(0, 0, 2, 1));
        due.refused("put of a column more", INDEX, State::rich, x -> x.put(0, 3, 0, 1));
        due.refused("put of 16", ARGUMENT, State::rich, x -> x.put(0, 0, 0, 16));
        due.refused("put of -1", ARGUMENT, State::rich, x -> x.put(1, 2, 1, -1));
    }

    // ---- promise 4

    private static void presets(Edges edges) {
        edges.edge(4, "RESET 3 .. 255 (64 at first)", due -> bounds(due, 0, 3, 255, 64));
        edges.edge(4, "START 1 .. 255 (4)", due -> bounds(due, 1, 1, 255, 4));
        edges.edge(4, "RESTART: after how many rows, 0 .. 12 (0: never)", due -> bounds(due, 2, 0, 12, 0));
        edges.edge(4, ANOTHER, PictureEdges::noSuchPreset);
        edges.edge(4, NO_PICTURE, PictureEdges::presetWithoutPicture);
        edges.edge(4, FIRST_ONE, PictureEdges::presetForSeveralReasons);
        edges.edge(4, NOTHING_CHANGES, PictureEdges::refusedPresets);
    }

    private static void bounds(Due due, int what, int least, int most, int first) {
        LineFrames x = new LineFrames(0);
        x.picture(1, 1, 2, 1);
        for (int v : new int[] {LOW, least - 1, most + 1, HIGH}) {
            due.argument("preset to " + v, () -> x.preset(what, v));
        }
        due.same("preset to the least", x.preset(what, least), first);
        due.same("preset to the most", x.preset(what, most), least);
        due.argument("preset to one more", () -> x.preset(what, most + 1));
        due.same("preset to the most again", x.preset(what, most), most);
        int[] others = {64, 4, 0};
        for (int other = 0; other < 3; other++) {
            if (other != what) {
                due.same("another one", x.preset(other, others[other]), others[other]);
            }
        }
    }

    private static void noSuchPreset(Due due) {
        for (int what : new int[] {LOW, -1, 3, HIGH}) {
            due.refused("preset(" + what + ", 5)", ARGUMENT, State::rich, x -> x.preset(what, 5));
        }
    }

    private static void presetWithoutPicture(Due due) {
        for (int what = 0; what < 3; what++) {
            int one = what;
            due.refused("preset(" + what + ", 5)", STATE, State::fresh, x -> x.preset(one, 5));
        }
    }

    private static void presetForSeveralReasons(Due due) {
        due.refused("preset(3, 5) without a picture", STATE, State::fresh, x -> x.preset(3, 5));
        due.refused("preset(0, 2) without a picture", STATE, State::fresh, x -> x.preset(0, 2));
    }

    private static void refusedPresets(Due due) {
        int[][] wrong = {{0, 2}, {0, 256}, {1, 0}, {1, 256}, {2, -1}, {2, 13}};
        for (int[] w : wrong) {
            due.refused("preset(" + w[0] + ", " + w[1] + ")", ARGUMENT, State::rich, x -> x.preset(w[0], w[1]));
        }
    }

    // ---- promise 5

    private static void tables(Edges edges) {
        edges.edge(5, "for each sample a number 0 .. 65535, at first 0.", PictureEdges::numbers);
        edges.edge(5, "What a sample stands for in a component: what it was before", PictureEdges::tablesApart);
        edges.edge(5, "NONE if it had no TABLE.", PictureEdges::noTable);
        edges.edge(5, "IllegalArgument: from is no sample", PictureEdges::noSampleOfTable);
        edges.edge(5, "to no such number", PictureEdges::noNumberOfTable);
        edges.edge(5, NO_SUCH, PictureEdges::noComponentOfTable);
        edges.edge(5, NO_PICTURE, due ->
                due.refused("table(0, 0, 0)", STATE, State::fresh, x -> x.table(0, 0, 0)));
        edges.edge(5, FIRST_ONE, PictureEdges::tableForSeveralReasons);
        edges.edge(5, NOTHING_CHANGES, PictureEdges::refusedTables);
    }

    /** In a second picture the TABLES begin with 0 again. */
    private static void numbers(Due due) {
        LineFrames x = new LineFrames(0);
        for (int round = 0; round < 2; round++) {
            x.picture(1, 1, 8, 4);
            for (int c = 0; c < 4; c++) {
                x.table(c, 128, 1);
                due.same("the first sample at first", x.table(c, 0, 65535), 0);
                due.same("the last sample at first", x.table(c, 255, c + 1), 0);
            }
            for (int c = 0; c < 4; c++) {
                due.same("the first sample's number", x.table(c, 0, 0), 65535);
                due.same("a number 0", x.table(c, 0, 9), 0);
                due.same("the last sample's number", x.table(c, 255, 65535), c + 1);
            }
        }
    }

    /** The first TABLE comes last, and leaves the first and the last numbers of the others alone. */
    private static void tablesApart(Due due) {
        LineFrames x = new LineFrames(0);
        x.picture(1, 1, 8, 4);
        for (int i = 0; i < 4; i++) {
            int c = (i + 2) % 4;
            due.same("the first number of a new TABLE", x.table(c, 0, 1000 + c), -1);
            due.same("its last number", x.table(c, 255, 2000 + c), 0);
        }
        for (int c = 0; c < 4; c++) {
            due.same("the first number of " + c, x.table(c, 0, 0), 1000 + c);
            due.same("the last number of " + c, x.table(c, 255, 0), 2000 + c);
        }
        LineFrames y = new LineFrames(0);
        y.picture(1, 1, 8, 4);
        for (int c = 3; c >= 0; c--) {
            y.table(c, 0, 1000 + c);
            y.table(c, 255, 2000 + c);
        }
        for (int c = 0; c < 4; c++) {
            due.same("the first number of " + c + ", the last one first", y.table(c, 0, 0), 1000 + c);
            due.same("the last number of " + c + ", the last one first", y.table(c, 255, 0), 2000 + c);
        }
    }

    private static void noTable(Due due) {
        LineFrames x = new LineFrames(0);
        x.picture(1, 1, 2, 4);
        for (int c = 3; c >= 0; c--) {
            due.same("the first call of " + c, x.table(c, c, 0), -1);
            due.same("the second call of " + c, x.table(c, c, 0), 0);
            due.same("another sample of " + c, x.table(c, 3 - c, 0), 0);
        }
    }

    private static void noSampleOfTable(Due due) {
        LineFrames x = new LineFrames(0);
        for (int bits = 2; bits <= 8; bits++) {
            int top = (1 << bits) - 1;
            x.picture(1, 1, bits, 1);
            for (int from : new int[] {LOW, -1, top + 1, HIGH}) {
                due.argument("table(0, " + from + ", 0)", () -> x.table(0, from, 0));
            }
            due.same("TOP of BITS " + bits, x.table(0, top, 0), -1);
            due.same("0 of BITS " + bits, x.table(0, 0, 0), 0);
        }
    }

    private static void noNumberOfTable(Due due) {
        LineFrames x = new LineFrames(0);
        x.picture(1, 1, 2, 1);
        for (int to : new int[] {LOW, -1, 65536, HIGH}) {
            due.argument("table(0, 0, " + to + ")", () -> x.table(0, 0, to));
        }
        due.same("to 0", x.table(0, 0, 0), -1);
        due.same("to 65535", x.table(0, 0, 65535), 0);
        due.same("what it became", x.table(0, 0, 1), 65535);
    }

    private static void noComponentOfTable(Due due) {
        for (int c : new int[] {LOW, -1, 2, 4, HIGH}) {
            due.refused("table(" + c + ", 0, 0)", INDEX, State::rich, x -> x.table(c, 0, 0));
        }
        LineFrames x = State.rich();
        due.same("the last component", x.table(1, 15, 0), 65535);
        due.same("the first component", x.table(0, 15, 0), -1);
    }

    private static void tableForSeveralReasons(Due due) {
        due.refused("no picture, no component", STATE, State::fresh, x -> x.table(-1, -1, -1));
        due.refused("no picture, no number", STATE, State::fresh, x -> x.table(0, 0, 65536));
        due.refused("no component, no sample", INDEX, State::rich, x -> x.table(2, 16, 0));
        due.refused("no component, no number", INDEX, State::rich, x -> x.table(-1, 0, 65536));
    }

    /** A refused call gives a component without a TABLE none. */
    private static void refusedTables(Due due) {
        for (int c = 0; c < 2; c++) {
            int one = c;
            due.refused("table(" + c + ", 16, 0)", ARGUMENT, State::rich, x -> x.table(one, 16, 0));
            due.refused("table(" + c + ", -1, 0)", ARGUMENT, State::rich, x -> x.table(one, -1, 0));
            due.refused("table(" + c + ", 15, 65536)", ARGUMENT, State::rich, x -> x.table(one, 15, 65536));
            due.refused("table(" + c + ", 15, -1)", ARGUMENT, State::rich, x -> x.table(one, 15, -1));
        }
        LineFrames x = State.rich();
        due.argument("table(0, 16, 0)", () -> x.table(0, 16, 0));
        due.same("the first taken call", x.table(0, 0, 0), -1);
    }
}
