/** Cases of the sentences that name no boundary: with these each sentence of the document has a case. */
final class TermEdges {
    private static final String FRAME = Parts.frame(2, 2, 2, 2);
    private static final String[] WHOLE = {Parts.BEGIN, Parts.note(0xE3, 1, 2), Parts.frame(1, 1, 2, 2),
        Parts.presets(3, 9), Parts.table(1, 4, 5, 6, 7), Parts.restart(2), Parts.note(0xFE),
        Parts.scan(0, 0, 2) + "80", Parts.scan(0, 0, 1) + "80"};

    private TermEdges() {
    }

    static void all(Edges edges) {
        edges.edge(2, "how many samples. IllegalArgument.", TermEdges::refusedPicture);
        edges.edge(4, "RESET (what = 0), START (1), RESTART (2) becomes v: what it was.", TermEdges::presets);
        edges.edge(5, "A component may have a TABLE: for each sample a number", TermEdges::tablesOfSome);
        edges.edge(11, "Bytes that were WRITTEN come, from one on that is there", TermEdges::passes);
        edges.edge(17, "TURN (what = 0)", TermEdges::turnStays);
        writing(edges);
        reading(edges);
    }

    private static void refusedPicture(Due due) {
        due.same("3 by 2, three components", new LineFrames(0).picture(3, 2, 2, 3), 18);
        due.refused("no picture without columns", IllegalArgumentException.class, State::rich,
                x -> x.picture(0, 2, 2, 3));
    }

    private static void presets(Due due) {
        LineFrames x = new LineFrames(0);
        x.picture(1, 1, 2, 1);
        due.same("RESET at first", x.preset(0, 9), 64);
        due.same("START at first", x.preset(1, 10), 4);
        due.same("RESTART at first", x.preset(2, 11), 0);
        due.same("RESET then", x.preset(0, 64), 9);
        due.same("START then", x.preset(1, 4), 10);
        due.same("RESTART then", x.preset(2, 0), 11);
    }

    private static void tablesOfSome(Due due) {
        LineFrames x = new LineFrames(1);
        x.picture(1, 1, 2, 2);
        due.same("no table before", x.table(1, 0, 77), LineFrames.NONE);
        x.write(0);
        x.pass(0, 6000);
        due.same("read()", x.read(), 2);
        due.same("a sample without a table", x.at(0, 0, 0, true), 0);
        due.same("a sample with one", x.at(1, 0, 0, true), 77);
        due.same("the sample itself", x.at(1, 0, 0, false), 0);
    }

    private static void passes(Due due) {
        LineFrames x = ofTwo(1);
        int size = x.write(0);
        x.feed(1);
        due.same("pass(2, 3)", x.pass(2, 3), 3);
        due.same("told(4)", x.told(4), 4);
        due.same("pass(size - 1, 3)", x.pass(size - 1, 3), 1);
        int[] came = {1, 255, 247, 0, 217};
        for (int i = 0; i < came.length; i++) {
            due.same("byte " + i, x.alter(i, 0), came[i]);
        }
    }

    private static void turnStays(Due due) {
        for (int turn = 0; turn <= 2; turn++) {
            LineFrames x = ofTwo(turn);
            x.write(0);
            x.pass(0, 6000);
            x.read();
            due.same("told(0) behind all", x.told(0), turn);
        }
    }

    // ---- what is written

    private static void writing(Edges edges) {
        edges.edge(8, "0 each component has a scan of its own, 1 rows take turns, 2 samples do.", TermEdges::turns);
        edges.edge(8, "A MARK is two bytes: 255 and a code, told here in base 16. SEGMENTS are a MARK, two bytes",
                TermEdges::marks);
        edges.edge(8, "then the SCANS: DA: how many components it has, for each one: its number and 1",
                TermEdges::turns);
        edges.edge(8, "and behind the segment its DATA; at last D9.", TermEdges::marks);
        edges.edge(8, "DATA: samples row by row", TermEdges::rowByRow);
        edges.edge(8, "A sample is FORETOLD from those that were told", TermEdges::foretoldFromTold);
        edges.edge(8, "With STEP 2 NEAR + 1 and RANGE", TermEdges::steps);
        edges.edge(8, "the ERROR is what the sample is more than foretold", TermEdges::moreAndLess);
        edges.edge(8, "it is told as what was foretold and STEP times the ERROR", TermEdges::toldAs);
        edges.edge(8, "It is told by m: 2 ERROR, or -2 ERROR - 1 if below 0", TermEdges::moreAndLess);
    }

    /** 0 1 / 2 3 and 3 2 / 1 0: told by 100 010, 011 010 and by 101 101, 011 11. */
    private static LineFrames ofTwo(int turn) {
        LineFrames x = new LineFrames(turn);
        x.picture(2, 2, 2, 2);
        for (int v = 0; v < 4; v++) {
            x.put(0, v % 2, v / 2, v);
            x.put(1, v % 2, v / 2, 3 - v);
        }
        return x;
    }

    private static String scansOfTwo(int turn) {
        switch (turn) {
            case 0: return Parts.scan(0, 0, 1) + Parts.bits("100 010 011 010")
                    + Parts.scan(0, 0, 2) + Parts.bits("101 101 011 11");
            case 1: return Parts.scan(0, 1, 1, 2) + Parts.bits("100 010  101 101  011 010  011 11");
            default: return Parts.scan(0, 2, 1, 2) + Parts.bits("100 101  010 101  011 011  010 11");
        }
    }

    private static void turns(Due due) {
        for (int turn = 0; turn <= 2; turn++) {
            LineFrames x = ofTwo(turn);
            String stream = Parts.BEGIN + FRAME + scansOfTwo(turn) + Parts.END;
            due.same("write(0) by TURN " + turn, x.write(0), Parts.size(stream));
            due.stream("TURN " + turn, x, stream);
        }
    }

    private static void marks(Due due) {
        LineFrames x = new LineFrames(0);
        x.picture(1, 1, 2, 1);
        x.write(0);
        due.stream("the least picture", x,
                "FFD8 FFF7 000B 02 0001 0001 01 01 11 00 FFDA 0008 01 01 00 00 00 00 80 FFD9");
    }

    /** A picture of one component by START 1, its samples row by row. */
    private static LineFrames ofOne(int width, int... samples) {
        LineFrames x = new LineFrames(0);
        x.picture(width, samples.length / width, 4, 1);
        x.preset(1, 1);
        for (int i = 0; i < samples.length; i++) {
            x.put(0, i % width, i / width, samples[i]);
        }
        return x;
    }

    private static void data(Due due, LineFrames x, int width, int height, int near, String bits) {
        x.write(near);
        due.stream("by NEAR " + near, x, Parts.BEGIN + Parts.frame(width, height, 4, 1) + Parts.presets(64, 1)
                + Parts.scan(near, 0, 1) + Parts.bits(bits) + Parts.END);
    }

    private static void rowByRow(Due due) {
        data(due, ofOne(3, 0, 1, 2, 3, 3, 3), 3, 2, 0, "1 001 001  0000001 10 1");
        data(due, ofOne(2, 0, 1, 2, 3), 2, 2, 0, "1 001  00001 001");
    }

    /** 5 is told as 6, and 4 is two less than that: by STEP 3 the ERROR is -1; from the 5 itself it would be 0. */
    private static void foretoldFromTold(Due due) {
        data(due, ofOne(2, 5, 4), 2, 1, 1, "00001 11");
    }

    private static void steps(Due due) {
        String[] bits = {"00000000001", "00001", "001", "001"};
        for (int near = 0; near < bits.length; near++) {
            data(due, ofOne(1, 5), 1, 1, near, bits[near]);
        }
    }

    private static void moreAndLess(Due due) {
        data(due, ofOne(1, 5, 2), 1, 2, 0, "00000000001 0101");
    }

    private static void toldAs(Due due) {
        int[] want = {5, 6, 5, 7};
        for (int near = 0; near < want.length; near++) {
            LineFrames x = ofOne(1, 5);
            x.write(near);
            x.pass(0, 6000);
            due.same("read()", x.read(), 1);
            due.same("5 by NEAR " + near, x.at(0, 0, 0, false), want[near]);
        }
    }

    // ---- what reading wants, and where

    private static void reading(Edges edges) {
        edges.edge(13, "Where a MARK is wanted, at a place p: 1:", TermEdges::wrongMarks);
        edges.edge(13, "Then, told at p, in this order: a NOTE", TermEdges::wrongSegments);
    }

    /** The first so many parts of a whole stream, and then another one. */
    private static String behind(int parts, String last) {
        return String.join("", java.util.Arrays.copyOf(WHOLE, parts)) + last;
    }

    private static int scansIn(int parts) {
        return Math.max(0, parts - (WHOLE.length - 2));
    }

    private static void wrongMarks(Due due) {
        for (int parts = 0; parts <= WHOLE.length; parts++) {
            int place = Parts.size(behind(parts, ""));
            int scans = scansIn(parts);
            due.reading(behind(parts, ""), -1 - place, 1, 0, scans);
            due.reading(behind(parts, "FF"), -2 - place, 1, 0, scans);
            for (String wrong : new String[] {"FF01", "FFD0", "00FF", "FED9"}) {
                due.reading(behind(parts, wrong), -1 - place, 2, 0, scans);
                due.reading(behind(parts, wrong + Parts.END), -1 - place, 2, 0, scans);
            }
        }
        due.reading(behind(WHOLE.length, Parts.END), 2, 0, 0, 2);
    }

    /** Of two things that are wrong the one that is named first is told. */
    private static void wrongSegments(Due due) {
        wrongSegment(due, 1, 4, Parts.note(0xEF, new int[31]));
        wrongSegment(due, 2, 4, Parts.frame(1, 1, 9, 1));
        wrongSegment(due, 2, 3, "FFF7 000A 09 0001 0001 01 01 11");
        wrongSegment(due, 3, 4, "FFF8 0005 03 03 01");
        wrongSegment(due, 3, 3, "FFF8 0004 01 00");
        wrongSegment(due, 3, 4, Parts.presets(2, 1));
        wrongSegment(due, 3, 6, Parts.table(3, 0, 0, 0, 0));
        wrongSegment(due, 5, 5, Parts.table(1, 0, 0, 0, 0));
        wrongSegment(due, 4, 4, Parts.restart(13));
        wrongSegment(due, 4, 3, "FFDD 0003 0D");
        wrongSegment(due, 6, 4, Parts.scan(4, 0, 1));
        wrongSegment(due, 6, 6, Parts.scan(4, 0, 3));
        wrongSegment(due, 6, 4, Parts.scan(0, 1, 1, 2, 3));
        wrongSegment(due, 8, 5, Parts.scan(4, 0, 2));
    }

    private static void wrongSegment(Due due, int parts, int fault, String wrong) {
        int place = Parts.size(behind(parts, ""));
        due.reading(behind(parts, wrong.replace(" ", "")), -1 - place, fault, 0, scansIn(parts));
    }
}
