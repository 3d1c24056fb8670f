/** Boundary cases of promises 14, 15 and 17: at, found, told. */
final class AnswerEdges {
    private static final int LOW = Integer.MIN_VALUE;
    private static final int HIGH = Integer.MAX_VALUE;
    private static final Class<IllegalStateException> STATE = IllegalStateException.class;
    private static final Class<IndexOutOfBoundsException> INDEX = IndexOutOfBoundsException.class;
    private static final String NOTHING_READ = "nothing was READ.";
    private static final String NO_SUCH = "IndexOutOfBounds: there is no such component, sample, note or byte.";
    private static final String FIRST_ONE = "Of several that a call names, the first one.";
    private static final String NOTHING_CHANGES = "A call that throws changes nothing.";

    private AnswerEdges() {
    }

    static void all(Edges edges) {
        samples(edges);
        finds(edges);
        tellings(edges);
    }

    private static void readWritten(LineFrames x, int near) {
        x.write(near);
        x.drop();
        x.pass(0, HIGH);
        x.read();
    }

    // ---- promise 14

    private static void samples(Edges edges) {
        edges.edge(14, "A sample of what was READ", AnswerEdges::cornersOfTheLargest);
        edges.edge(14, NO_SUCH, AnswerEdges::noSuchSample);
        edges.edge(14, "meant: what it stands for by its component's TABLE, if it has one.", AnswerEdges::meant);
        edges.edge(14, "what it stands for by its component's TABLE", AnswerEdges::tablesInAnyOrder);
        edges.edge(14, NOTHING_READ, AnswerEdges::sampleOfNothing);
        edges.edge(14, FIRST_ONE, due ->
                due.refused("nothing read, no sample", STATE, State::fresh, x -> x.at(-1, -1, -1, true)));
        edges.edge(14, NOTHING_CHANGES, due ->
                due.refused("at(1, 0, 0, true)", INDEX, State::rich, x -> x.at(1, 0, 0, true)));
    }

    private static void cornersOfTheLargest(Due due) {
        for (int turn = 0; turn <= 2; turn++) {
            LineFrames x = new LineFrames(turn);
            x.picture(12, 12, 8, 4);
            for (int i = 0; i < 16; i++) {
                x.put(i / 4, i / 2 % 2 * 11, i % 2 * 11, 255 - i);
            }
            readWritten(x, 0);
            x.picture(1, 1, 2, 1);
            for (int i = 0; i < 16; i++) {
                due.same("a corner by TURN " + turn, x.at(i / 4, i / 2 % 2 * 11, i % 2 * 11, false), 255 - i);
                due.same("the place beside it", x.at(i / 4, i / 2 % 2 * 9 + 1, i % 2 * 11, false), 0);
            }
        }
    }

    private static void noSuchSample(Due due) {
        LineFrames x = new LineFrames(2);
        x.picture(3, 2, 2, 2);
        x.put(0, 0, 0, 3);
        x.put(1, 2, 1, 2);
        readWritten(x, 0);
        x.picture(12, 12, 8, 4);
        int[][] nowhere = {{-1, 0, 0}, {2, 0, 0}, {0, -1, 0}, {0, 3, 0}, {0, 0, -1}, {0, 0, 2},
            {LOW, 0, 0}, {HIGH, 0, 0}, {0, LOW, 0}, {0, HIGH, 0}, {0, 0, LOW}, {0, 0, HIGH}};
        for (int[] n : nowhere) {
            due.index("at(" + n[0] + ", " + n[1] + ", " + n[2] + ")", () -> x.at(n[0], n[1], n[2], false));
            due.index("at(" + n[0] + ", " + n[1] + ", " + n[2] + ") meant", () -> x.at(n[0], n[1], n[2], true));
        }
        due.same("the first sample", x.at(0, 0, 0, false), 3);
        due.same("the last sample", x.at(1, 2, 1, false), 2);
    }

    private static void meant(Due due) {
        LineFrames x = new LineFrames(0);
        x.picture(2, 1, 8, 3);
        for (int c = 0; c < 3; c++) {
            x.put(c, 1, 0, 255);
        }
        x.table(1, 0, 65535);
        x.table(2, 7, 1);
        readWritten(x, 0);
        x.table(0, 255, 9);
        due.same("without a TABLE", x.at(0, 1, 0, true), 255);
        due.same("the first number of a TABLE", x.at(1, 0, 0, true), 65535);
        due.same("the last number of a TABLE, 0 as at first", x.at(1, 1, 0, true), 0);
        due.same("not meant", x.at(1, 1, 0, false), 255);
        due.same("of another TABLE", x.at(2, 0, 0, true), 0);
        x.picture(2, 1, 8, 3);
        readWritten(x, 0);
        due.same("a TABLE of an earlier reading", x.at(1, 0, 0, true), 0);
    }

    /** The largest TABLES, the last one first and last: each has its own first and last number. */
    private static void tablesInAnyOrder(Due due) {
        int[][] orders = {{4, 3, 2, 1}, {1, 2, 3, 4}};
        for (int[] order : orders) {
            StringBuilder stream = new StringBuilder(Parts.BEGIN + Parts.frame(2, 1, 8, 4));
            for (int number : order) {
                int[] numbers = new int[256];
                numbers[0] = 1000 + number;
                numbers[255] = 2000 + number;
                stream.append(Parts.table(number, numbers));
            }
            // Each component has 0 by k 2, and 255, which is told as 1 less, by k 1.
            stream.append(Parts.scan(0, 1, 1, 2, 3, 4)).append(Parts.bits("100 11".repeat(4)));
            LineFrames x = new LineFrames(0);
            Due.feedAll(x, Due.bytes(stream + Parts.END));
            due.same("read()", x.read(), 4);
            for (int c = 0; c < 4; c++) {
                due.same("the sample 0 of " + c, x.at(c, 0, 0, true), 1001 + c);
                due.same("the sample 255 of " + c, x.at(c, 1, 0, true), 2001 + c);
                due.same("not meant", x.at(c, 1, 0, false), 255);
            }
        }
    }

    private static void sampleOfNothing(Due due) {
        LineFrames x = new LineFrames(0);
        due.state("at of a new object", () -> x.at(0, 0, 0, false));
        x.picture(1, 1, 2, 1);
        due.state("at of a picture that was not read", () -> x.at(0, 0, 0, false));
        readWritten(x, 0);
        due.same("at of what was read", x.at(0, 0, 0, false), 0);
        x.drop();
        due.same("at behind drop", x.at(0, 0, 0, false), 0);
        x.read();
        due.state("at of a broken reading", () -> x.at(0, 0, 0, false));
    }

    // ---- promise 15

    private static void finds(Edges edges) {
        edges.edge(15, "Of what was READ the width (what = 0), the height (1), BITS (2), components (3)",
                AnswerEdges::measures);
        edges.edge(15, "NEAR (4) and TURN (5) of the last SCAN", AnswerEdges::lastScan);
        edges.edge(15, "RESET (6), START (7), RESTART (8), NOTES (9)", AnswerEdges::presets);
        edges.edge(15, "NOTES (9); NONE for another what.", AnswerEdges::anotherFind);
        edges.edge(15, NOTHING_READ, AnswerEdges::findOfNothing);
        edges.edge(15, NOTHING_CHANGES, due ->
                due.refused("found(0)", STATE, State::fresh, x -> x.found(0)));
    }

    private static void measures(Due due) {
        int[][] shapes = {{1, 1, 2, 1}, {12, 1, 8, 4}, {1, 12, 3, 2}, {12, 12, 8, 4}};
        LineFrames x = new LineFrames(1);
        for (int[] shape : shapes) {
            x.picture(shape[0], shape[1], shape[2], shape[3]);
            readWritten(x, 0);
            for (int what = 0; what < 4; what++) {
                due.same("found(" + what + ")", x.found(what), shape[what]);
            }
        }
    }

    private static void lastScan(Due due) {
        for (int turn = 0; turn <= 2; turn++) {
            LineFrames x = new LineFrames(turn);
            x.picture(1, 1, 2, 2);
            readWritten(x, 3);
            due.same("NEAR 3", x.found(4), 3);
            due.same("TURN of two components", x.found(5), turn);
            x.picture(1, 1, 2, 1);
            readWritten(x, 0);
            due.same("NEAR 0", x.found(4), 0);
            due.same("TURN of one component", x.found(5), 0);
        }
        LineFrames y = new LineFrames(2);
        Due.feedAll(y, Due.bytes(Parts.BEGIN + Parts.frame(1, 1, 2, 2) + Parts.scan(3, 0, 2) + "80"
                + Parts.scan(1, 0, 1) + "80" + Parts.END));
        due.same("read() of scans with other NEARs", y.read(), 2);
        due.same("NEAR of the last SCAN", y.found(4), 1);
    }

    private static void presets(Due due) {
        LineFrames x = new LineFrames(0);
        int[][] presets = {{3, 1, 0}, {255, 255, 12}, {64, 4, 1}, {64, 4, 0}};
        for (int[] preset : presets) {
            x.picture(1, 1, 2, 1);
            for (int what = 0; what < 3; what++) {
                x.preset(what, preset[what]);
            }
            readWritten(x, 0);
            for (int what = 0; what < 3; what++) {
                due.same("found(" + (6 + what) + ")", x.found(6 + what), preset[what]);
            }
            due.same("found(9)", x.found(9), 0);
        }
        for (int n = 0; n < 6; n++) {
            x.note(n);
        }
        readWritten(x, 0);
        due.same("found(9) of six", x.found(9), 6);
    }

    private static void anotherFind(Due due) {
        LineFrames x = new LineFrames(0);
        x.picture(1, 1, 2, 1);
        x.note(0);
        readWritten(x, 0);
        due.same("found(9)", x.found(9), 1);
        due.same("found(0)", x.found(0), 1);
        for (int what : new int[] {LOW, -1, 10, HIGH}) {
            due.same("found(" + what + ")", x.found(what), -1);
        }
    }

    private static void findOfNothing(Due due) {
        LineFrames x = new LineFrames(0);
        x.picture(1, 1, 2, 1);
        x.write(0);
        x.pass(0, HIGH);
        for (int what : new int[] {LOW, -1, 0, 3, 9, 10, HIGH}) {
            due.state("found(" + what + ") before a reading", () -> x.found(what));
        }
        x.read();
        due.same("found(3)", x.found(3), 1);
        x.feed(0);
        due.same("found(3) before the next reading", x.found(3), 1);
        x.read();
        for (int what : new int[] {LOW, -1, 0, 3, 9, 10, HIGH}) {
            due.state("found(" + what + ") of a broken one", () -> x.found(what));
        }
    }

    // ---- promise 17

    private static void tellings(Edges edges) {
        edges.edge(17, "components of the picture (1; 0 without one)", AnswerEdges::toldComponents);
        edges.edge(17, "its NOTES (2)", AnswerEdges::toldNotes);
        edges.edge(17, "bytes that were WRITTEN last (3), that came (4)", AnswerEdges::toldBytes);
        edges.edge(17, "the FAULT of the latest reading (5; 0 for none)", AnswerEdges::toldFault);
        edges.edge(17, "restarts that it met (6; not a wrong one)", AnswerEdges::toldRestarts);
        edges.edge(17, "SCANS that it read whole (7)", AnswerEdges::toldScans);
        edges.edge(17, "SCANS that it read whole (7); NONE for another what.", AnswerEdges::anotherTelling);
    }

    private static void toldComponents(Due due) {
        LineFrames x = new LineFrames(0);
        due.same("without a picture", x.told(1), 0);
        due.argument("a wrong picture", () -> x.picture(1, 1, 2, 5));
        due.same("behind a wrong picture", x.told(1), 0);
        for (int components = 1; components <= 4; components++) {
            x.picture(1, 1, 2, components);
            due.same("told(1)", x.told(1), components);
        }
        x.read();
        due.same("behind a broken reading", x.told(1), 4);
    }

    private static void toldNotes(Due due) {
        LineFrames x = new LineFrames(0);
        due.same("without a picture", x.told(2), 0);
        x.picture(1, 1, 2, 1);
        for (int n = 0; n < 6; n++) {
            due.same("told(2)", x.told(2), n);
            x.note(n);
        }
        due.same("told(2) of six", x.told(2), 6);
        x.picture(1, 1, 2, 1);
        due.same("told(2) of a new picture", x.told(2), 0);
    }

    private static void toldBytes(Due due) {
        LineFrames x = new LineFrames(0);
        x.picture(1, 1, 2, 1);
        due.same("nothing written", x.told(3), 0);
        due.same("nothing came", x.told(4), 0);
        x.write(0);
        due.same("told(3)", x.told(3), 28);
        due.same("told(4) of none", x.told(4), 0);
        x.pass(0, 27);
        due.same("told(4)", x.told(4), 27);
        due.same("told(3) stays", x.told(3), 28);
        due.same("told(4) of 6000", State.full().told(4), 6000);
    }

    private static void toldFault(Due due) {
        LineFrames x = new LineFrames(0);
        due.same("before a reading", x.told(5), 0);
        x.read();
        due.same("of an empty one", x.told(5), 1);
        x.feed(0);
        due.same("before the next reading", x.told(5), 1);
        x.feed(0);
        x.read();
        due.same("of the next reading", x.told(5), 2);
        x.picture(1, 1, 2, 1);
        readWritten(x, 0);
        due.same("of a whole one", x.told(5), 0);
    }

    private static final String THREE_ROWS = Parts.BEGIN + Parts.frame(1, 3, 2, 1) + Parts.restart(1)
            + Parts.scan(0, 0, 1) + "80";

    private static void toldRestarts(Due due) {
        due.reading(THREE_ROWS + "FFD080FFD180" + Parts.END, 1, 0, 2, 1);
        due.reading(THREE_ROWS + "FFD080FFD280" + Parts.END, -1 - Parts.size(THREE_ROWS + "FFD080"), 8, 1, 0);
        due.reading(THREE_ROWS + "FFD180FFD180" + Parts.END, -1 - Parts.size(THREE_ROWS), 8, 0, 0);
        LineFrames x = new LineFrames(0);
        x.picture(1, 12, 2, 4);
        x.preset(2, 1);
        readWritten(x, 0);
        due.same("eleven of each of four SCANS", x.told(6), 44);
        x.preset(2, 11);
        readWritten(x, 0);
        due.same("one of each of four SCANS", x.told(6), 4);
        x.preset(2, 12);
        readWritten(x, 0);
        due.same("none", x.told(6), 0);
        x.drop();
        x.read();
        due.same("of an empty one", x.told(6), 0);
    }

    private static void toldScans(Due due) {
        for (int turn = 0; turn <= 2; turn++) {
            LineFrames x = new LineFrames(turn);
            x.picture(1, 1, 2, 4);
            readWritten(x, 0);
            due.same("by TURN " + turn, x.told(7), turn == 0 ? 4 : 1);
        }
        String head = Parts.BEGIN + Parts.frame(1, 1, 2, 2);
        String one = head + Parts.scan(0, 0, 1) + "80";
        due.reading(head + Parts.scan(0, 0, 1), -1 - Parts.size(head + Parts.scan(0, 0, 1)), 1, 0, 0);
        due.reading(one, -1 - Parts.size(one), 1, 0, 1);
        due.reading(one + Parts.scan(0, 0, 2) + "81", -1 - Parts.size(one + Parts.scan(0, 0, 2)), 7, 0, 1);
        due.reading(one + Parts.scan(0, 0, 2) + "80", -1 - Parts.size(one + Parts.scan(0, 0, 2) + "80"), 1, 0, 2);
    }

    private static void anotherTelling(Due due) {
        LineFrames[] all = {State.fresh(), State.rich(), State.full()};
        for (LineFrames x : all) {
            for (int what : new int[] {LOW, -1, 8, HIGH}) {
                due.same("told(" + what + ")", x.told(what), -1);
            }
        }
    }
}
