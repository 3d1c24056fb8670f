/** Boundary cases of promise 13: faults where a mark is wanted, and of its segment. */
final class MarkEdges {
    private static final String BEGIN = Parts.BEGIN;
    private static final String END = Parts.END;
    private static final String ONE = BEGIN + Parts.frame(1, 1, 2, 1);
    private static final String TWO = BEGIN + Parts.frame(1, 1, 2, 2);
    private static final String THREE = BEGIN + Parts.frame(1, 1, 2, 3);
    private static final String FIRST = Parts.scan(0, 0, 1) + "80";
    private static final String SECOND = Parts.scan(0, 0, 2) + "80";
    private static final String TABLE = Parts.table(1, 1, 2, 3, 4);

    private MarkEdges() {
    }

    static void all(Edges edges) {
        marks(edges);
        segments(edges);
        frames(edges);
        presets(edges);
        scans(edges);
    }

    /** Broken at the place behind what stands before, with so many scans before it. */
    private static void broken(Due due, int scans, String before, String rest, int fault) {
        due.reading(before + rest, -1 - Parts.size(before), fault, 0, scans);
    }

    /** No fault but the lack of more: so all that stands there is taken. */
    private static void taken(Due due, int scans, String hex) {
        due.reading(hex, -1 - Parts.size(hex), 1, 0, scans);
    }

    private static void whole(Due due, int components, int scans, String hex) {
        due.reading(hex, components, 0, 0, scans);
    }

    // ---- marks

    private static void marks(Edges edges) {
        edges.edge(13, "1: fewer than two bytes are left (place: as many as there are).", MarkEdges::noMark);
        edges.edge(13, "2 (p): it is not 255 first, or none of D8, E0 to EF, FE, F7, F8, DD, DA, D9",
                MarkEdges::unknownMarks);
        edges.edge(13, "or the first one is not D8, or a later one is.", MarkEdges::firstMark);
        edges.edge(13, "5 (p): F7, if there was one", MarkEdges::secondFrame);
        edges.edge(13, "F8, DD or DA before F7", MarkEdges::beforeTheFrame);
        edges.edge(13, "F8 or DD behind a SCAN", MarkEdges::behindTheScan);
        edges.edge(13, "D9 before each component had a SCAN (and without F7).", MarkEdges::earlyEnd);
        edges.edge(13, "Behind D9: 9 (the place behind it), if there are bytes.", MarkEdges::behindTheEnd);
    }

    private static void noMark(Due due) {
        due.reading("", -1, 1, 0, 0);
        due.reading("FF", -2, 1, 0, 0);
        due.reading("00", -2, 1, 0, 0);
        taken(due, 0, BEGIN);
        taken(due, 0, BEGIN + "FF");
        taken(due, 0, BEGIN + "00");
        taken(due, 1, ONE + FIRST);
        taken(due, 1, ONE + FIRST + "FF");
        taken(due, 1, ONE + FIRST + "D9");
    }

    private static boolean isKnown(int code) {
        return code >= 0xE0 && code <= 0xEF || code == 0xFE || code == 0xF7 || code == 0xF8 || code == 0xDD
                || code == 0xDA || code == 0xD9;
    }

    /** Every code, at the place of a mark behind the first one. */
    private static void unknownMarks(Due due) {
        for (int code = 0; code < 256; code++) {
            if (!isKnown(code)) {
                broken(due, 0, BEGIN, String.format("FF%02X", code), 2);
                broken(due, 0, ONE, String.format("FF%02X0003", code), 2);
                broken(due, 1, ONE + FIRST, String.format("FF%02X", code), 2);
            }
            broken(due, 0, BEGIN, String.format("FE%02X", code), 2);
            broken(due, 0, BEGIN, String.format("00%02X", code), 2);
        }
        for (int code = 0xE0; code <= 0xEF; code++) {
            taken(due, 0, BEGIN + String.format("FF%02X0002", code));
        }
        taken(due, 0, BEGIN + "FFFE0002");
    }

    private static void firstMark(Due due) {
        for (int code = 0; code < 256; code++) {
            if (code != 0xD8) {
                broken(due, 0, "", String.format("FF%02X", code), 2);
                broken(due, 0, "", String.format("FF%02X0002", code), 2);
            }
        }
        broken(due, 0, "", "00D8", 2);
        broken(due, 0, BEGIN, BEGIN, 2);
        broken(due, 0, ONE, BEGIN, 2);
        broken(due, 1, ONE + FIRST, BEGIN, 2);
        whole(due, 1, 1, ONE + FIRST + END);
    }

    private static void secondFrame(Due due) {
        broken(due, 0, ONE, Parts.frame(1, 1, 2, 1), 5);
        broken(due, 0, ONE, "FFF7", 5);
        broken(due, 0, ONE, "FFF70000", 5);
        broken(due, 0, ONE + "FFE00002", Parts.frame(1, 1, 2, 1), 5);
        broken(due, 1, ONE + FIRST, Parts.frame(1, 1, 2, 1), 5);
    }

    private static void beforeTheFrame(Due due) {
        for (String mark : new String[] {"FFF8", "FFDD", "FFDA"}) {
            broken(due, 0, BEGIN, mark, 5);
            broken(due, 0, BEGIN, mark + "0000", 5);
            broken(due, 0, BEGIN + "FFE00002", mark + "0005", 5);
        }
        broken(due, 0, BEGIN, Parts.presets(3, 1), 5);
        broken(due, 0, BEGIN, Parts.restart(1), 5);
        broken(due, 0, BEGIN, FIRST, 5);
        taken(due, 0, ONE + Parts.presets(3, 1) + Parts.restart(1));
    }

    private static void behindTheScan(Due due) {
        broken(due, 1, ONE + FIRST, Parts.presets(3, 1), 5);
        broken(due, 1, ONE + FIRST, TABLE, 5);
        broken(due, 1, ONE + FIRST, Parts.restart(1), 5);
        broken(due, 1, TWO + FIRST, "FFF8", 5);
        broken(due, 1, TWO + FIRST, "FFDD0000", 5);
        whole(due, 2, 2, TWO + FIRST + "FFE00002" + SECOND + "FFFE0002" + END);
    }

    private static void earlyEnd(Due due) {
        broken(due, 0, BEGIN, END, 5);
        broken(due, 0, BEGIN, END + "00", 5);
        broken(due, 0, ONE, END, 5);
        broken(due, 1, TWO + FIRST, END, 5);
        broken(due, 1, TWO + SECOND, END, 5);
        broken(due, 2, THREE + FIRST + SECOND, END, 5);
        broken(due, 2, THREE + FIRST + Parts.scan(0, 0, 3) + "80", END, 5);
        whole(due, 2, 2, TWO + SECOND + FIRST + END);
        whole(due, 3, 1, THREE + Parts.scan(0, 1, 1, 2, 3) + "9200" + END);
    }

    private static void behindTheEnd(Due due) {
        String all = ONE + FIRST + END;
        whole(due, 1, 1, all);
        for (String rest : new String[] {"00", "FF", "FFD9", "FFE00002", ONE + FIRST + END}) {
            due.reading(all + rest, -1 - Parts.size(all), 9, 0, 1);
        }
    }

    // ---- segments

    private static void segments(Edges edges) {
        edges.edge(13, "Its SEGMENT: 1: fewer than four bytes from p on", MarkEdges::fewerThanFour);
        edges.edge(13, "3 (p): its number is below 2", MarkEdges::belowTwo);
        edges.edge(13, "1: fewer bytes are left than it says.", MarkEdges::fewerThanSaid);
        edges.edge(13, "a NOTE: 4: it is the seventh, or has more than 30 bytes.", MarkEdges::notes);
    }

    private static final String[] MARKS = {"FFE0", "FFEF", "FFFE", "FFF7", "FFF8", "FFDD", "FFDA"};

    private static String before(String mark) {
        return mark.startsWith("FFE") || mark.equals("FFFE") || mark.equals("FFF7") ? BEGIN : ONE;
    }

    private static void fewerThanFour(Due due) {
        for (String mark : MARKS) {
            taken(due, 0, before(mark) + mark);
            taken(due, 0, before(mark) + mark + "00");
            taken(due, 0, before(mark) + mark + "FF");
        }
    }

    private static void belowTwo(Due due) {
        for (String mark : MARKS) {
            broken(due, 0, before(mark), mark + "0000", 3);
            broken(due, 0, before(mark), mark + "0001", 3);
            broken(due, 0, before(mark), mark + "0001" + "00".repeat(40), 3);
        }
        taken(due, 0, BEGIN + "FFE00002");
    }

    private static void fewerThanSaid(Due due) {
        for (String mark : MARKS) {
            taken(due, 0, before(mark) + mark + "0003");
            taken(due, 0, before(mark) + mark + "0100" + "00".repeat(253));
            taken(due, 0, before(mark) + mark + "FFFF" + "00".repeat(60));
        }
        taken(due, 0, BEGIN + "FFE0 0020" + "00".repeat(29));
        taken(due, 0, BEGIN + "FFF7 000B 02 0001 0001 01 0111");
    }

    private static void notes(Due due) {
        String empty = "FFE00002";
        taken(due, 0, BEGIN + Parts.note(0xE0, new int[30]));
        broken(due, 0, BEGIN, Parts.note(0xE0, new int[31]), 4);
        broken(due, 0, BEGIN, Parts.note(0xFE, new int[31]), 4);
        taken(due, 0, BEGIN + Parts.note(0xFE, new int[30]));
        taken(due, 0, BEGIN + empty.repeat(6));
        broken(due, 0, BEGIN + empty.repeat(6), empty, 4);
        broken(due, 0, BEGIN + empty.repeat(6), "FFFE0002", 4);
        broken(due, 0, BEGIN + empty.repeat(6), "FFE00001", 3);
        // The seventh one is cut: that is met before.
        taken(due, 0, BEGIN + empty.repeat(6) + "FFE00003");
        String behind = ONE + empty.repeat(3) + FIRST + empty.repeat(3);
        broken(due, 1, behind, empty, 4);
        whole(due, 1, 1, behind + END);
    }

    // ---- F7

    private static void frames(Edges edges) {
        edges.edge(13, "F7: 3: its number is below 8, or not 8 and three times the components that it tells",
                MarkEdges::frameLengths);
        edges.edge(13, "4: BITS, height, width, components, or the three bytes of one that may not be",
                MarkEdges::frameValues);
        edges.edge(13, "(1, 2, .. in order; 17; 0)", MarkEdges::frameComponents);
    }

    private static void frameLengths(Due due) {
        broken(due, 0, BEGIN, "FFF7 0002", 3);
        broken(due, 0, BEGIN, "FFF7 0007 02 0001 0001", 3);
        broken(due, 0, BEGIN, "FFF7 0007 02 0001 0001 01 011100", 3);
        broken(due, 0, BEGIN, "FFF7 0008 02 0001 0001 01", 3);
        broken(due, 0, BEGIN, "FFF7 000A 02 0001 0001 01 0111", 3);
        broken(due, 0, BEGIN, "FFF7 000C 02 0001 0001 01 011100 00", 3);
        broken(due, 0, BEGIN, "FFF7 000B 02 0001 0001 02 011100", 3);
        broken(due, 0, BEGIN, "FFF7 0009 02 0001 0001 00 00", 3);
        // The number is looked at before BITS.
        broken(due, 0, BEGIN, "FFF7 000B 09 0001 0001 04 011100", 3);
        broken(due, 0, BEGIN, "FFF7 0008 02 0001 0001 00", 4);
        taken(due, 0, BEGIN + Parts.frame(1, 1, 2, 1));
        taken(due, 0, BEGIN + Parts.frame(1, 1, 2, 4));
    }

    private static void frameValues(Due due) {
        int[][] wrong = {{1, 1, 1, 1}, {1, 1, 9, 1}, {1, 1, 0, 1}, {1, 1, 255, 1}, {1, 0, 2, 1}, {1, 13, 2, 1},
            {1, 256, 2, 1}, {1, 257, 2, 1}, {0, 1, 2, 1}, {13, 1, 2, 1}, {256, 1, 2, 1}, {257, 1, 2, 1},
            {65535, 1, 2, 1}, {1, 1, 2, 0}, {1, 1, 2, 5}, {1, 1, 2, 255}};
        for (int[] w : wrong) {
            broken(due, 0, BEGIN, Parts.frame(w[0], w[1], w[2], w[3]), 4);
        }
        int[][] right = {{1, 1, 2, 1}, {12, 1, 2, 1}, {1, 12, 2, 1}, {1, 1, 8, 1}, {1, 1, 2, 4}, {12, 12, 8, 4}};
        for (int[] r : right) {
            taken(due, 0, BEGIN + Parts.frame(r[0], r[1], r[2], r[3]));
        }
    }

    private static void frameComponents(Due due) {
        String[] first = {"001100", "021100", "FF1100", "011000", "011200", "010000", "011101", "0111FF"};
        for (String wrong : first) {
            broken(due, 0, BEGIN, "FFF7 000B 02 0001 0001 01" + wrong, 4);
        }
        String[] last = {"031100", "051100", "001100", "041000", "041200", "041101", "0411FF"};
        for (String wrong : last) {
            broken(due, 0, BEGIN, "FFF7 0014 02 0001 0001 04 011100 021100 031100" + wrong, 4);
        }
        broken(due, 0, BEGIN, "FFF7 000E 02 0001 0001 02 021100 011100", 4);
        broken(due, 0, BEGIN, "FFF7 000E 02 0001 0001 02 001100 011100", 4);
    }

    // ---- F8 and DD

    private static void presets(Edges edges) {
        edges.edge(13, "F8: 3: its number is below 3; 4: neither 1 nor 2 comes", MarkEdges::presetKinds);
        edges.edge(13, "of 1: 3: its number is not 5; 4: RESET, START", MarkEdges::presetValues);
        edges.edge(13, "of 2: 3: its number is not 5 and 2 times as many as there are samples 0 .. TOP",
                MarkEdges::tableLengths);
        edges.edge(13, "6: no such component; 5: it has a TABLE; 4: the 2.", MarkEdges::tableValues);
        edges.edge(13, "DD: 3: its number is not 4; 4: RESTART.", MarkEdges::restarts);
        edges.edge(13, "Of several F8 with 1, and of several DD, the last one counts.", MarkEdges::lastCounts);
    }

    private static void presetKinds(Due due) {
        broken(due, 0, ONE, "FFF8 0002", 3);
        broken(due, 0, ONE, "FFF8 0002 01", 3);
        broken(due, 0, ONE, "FFF8 0003 00", 4);
        broken(due, 0, ONE, "FFF8 0003 03", 4);
        broken(due, 0, ONE, "FFF8 0005 03 40 04", 4);
        broken(due, 0, ONE, "FFF8 0005 00 40 04", 4);
        broken(due, 0, ONE, "FFF8 0003 FF", 4);
    }

    private static void presetValues(Due due) {
        broken(due, 0, ONE, "FFF8 0003 01", 3);
        broken(due, 0, ONE, "FFF8 0004 01 40", 3);
        broken(due, 0, ONE, "FFF8 0004 01 02", 3);
        broken(due, 0, ONE, "FFF8 0006 01 40 04 00", 3);
        broken(due, 0, ONE, "FFF8 0006 01 02 00 00", 3);
        broken(due, 0, ONE, "FFF8 0105 01 40 04" + "00".repeat(256), 3);
        int[][] wrong = {{2, 4}, {0, 4}, {64, 0}, {2, 0}, {255, 0}};
        for (int[] w : wrong) {
            broken(due, 0, ONE, Parts.presets(w[0], w[1]), 4);
        }
        int[][] right = {{3, 1}, {3, 255}, {255, 1}, {255, 255}, {64, 4}};
        for (int[] r : right) {
            taken(due, 0, ONE + Parts.presets(r[0], r[1]));
        }
    }

    private static void tableLengths(Due due) {
        broken(due, 0, ONE, "FFF8 0003 02", 3);
        broken(due, 0, ONE, "FFF8 0005 02 01 02", 3);
        for (int bits = 2; bits <= 8; bits++) {
            String head = BEGIN + Parts.frame(1, 1, bits, 1);
            int count = 1 << bits;
            taken(due, 0, head + Parts.table(1, new int[count]));
            broken(due, 0, head, Parts.table(1, new int[count - 1]), 3);
            broken(due, 0, head, Parts.table(1, new int[count + 1]), 3);
            broken(due, 0, head, Parts.table(9, new int[count + 1]), 3);
            broken(due, 0, head, String.format("FFF8 %04X 02 01 02", 4 + 2 * count) + "00".repeat(2 * count - 1), 3);
            broken(due, 0, head, String.format("FFF8 %04X 02 01 02", 6 + 2 * count) + "00".repeat(2 * count + 1), 3);
        }
    }

    private static void tableValues(Due due) {
        String numbers = "0001000200030004";
        broken(due, 0, ONE, "FFF8 000D 02 00 02" + numbers, 6);
        broken(due, 0, ONE, "FFF8 000D 02 02 02" + numbers, 6);
        broken(due, 0, ONE, "FFF8 000D 02 FF 02" + numbers, 6);
        broken(due, 0, ONE + TABLE, TABLE, 5);
        broken(due, 0, ONE, "FFF8 000D 02 01 01" + numbers, 4);
        broken(due, 0, ONE, "FFF8 000D 02 01 03" + numbers, 4);
        broken(due, 0, ONE, "FFF8 000D 02 01 00" + numbers, 4);
        // Of several the first one: 6, then 5, then 4.
        broken(due, 0, ONE + TABLE, "FFF8 000D 02 02 01" + numbers, 6);
        broken(due, 0, ONE + TABLE, "FFF8 000D 02 01 01" + numbers, 5);
        String four = BEGIN + Parts.frame(1, 1, 2, 4);
        taken(due, 0, four + Parts.table(4, 0, 0, 0, 0) + Parts.table(1, 65535, 65535, 65535, 65535));
        broken(due, 0, four, Parts.table(5, 0, 0, 0, 0), 6);
    }

    private static void restarts(Due due) {
        broken(due, 0, ONE, "FFDD 0002", 3);
        broken(due, 0, ONE, "FFDD 0003 00", 3);
        broken(due, 0, ONE, "FFDD 0005 0000 00", 3);
        broken(due, 0, ONE, "FFDD 0005 FFFF 00", 3);
        for (int rows : new int[] {13, 256, 257, 65535}) {
            broken(due, 0, ONE, Parts.restart(rows), 4);
        }
        taken(due, 0, ONE + Parts.restart(0));
        taken(due, 0, ONE + Parts.restart(12));
    }

    private static void lastCounts(Due due) {
        LineFrames x = new LineFrames(0);
        Due.feedAll(x, Due.bytes(BEGIN + Parts.frame(1, 2, 2, 1) + Parts.restart(1) + Parts.presets(5, 255)
                + Parts.presets(255, 1) + Parts.restart(2) + Parts.restart(0) + Parts.scan(0, 0, 1) + "C0" + END));
        due.same("read()", x.read(), 1);
        due.same("RESET", x.found(6), 255);
        due.same("START", x.found(7), 1);
        due.same("RESTART", x.found(8), 0);
        due.same("restarts", x.told(6), 0);
        // A second one that is as at first counts too.
        LineFrames y = new LineFrames(0);
        Due.feedAll(y, Due.bytes(ONE + Parts.presets(3, 1) + Parts.presets(64, 4) + FIRST + END));
        due.same("read() of presets as at first", y.read(), 1);
        due.same("RESET as at first", y.found(6), 64);
        due.same("START as at first", y.found(7), 4);
    }

    // ---- DA

    private static void scans(Edges edges) {
        edges.edge(13, "DA: 3: its number is below 3, or not 6 and two times the components that it tells",
                MarkEdges::scanLengths);
        edges.edge(13, "4: these are neither 1 nor all", MarkEdges::scanCounts);
        edges.edge(13, "of each of its components: 6: there is none", MarkEdges::scanComponents);
        edges.edge(13, "4: of several, not in order", MarkEdges::scanOrder);
        edges.edge(13, "5: it had a SCAN", MarkEdges::scannedBefore);
        edges.edge(13, "4: a TABLE that is neither 0 nor its own (there must be one then)", MarkEdges::scanTables);
        edges.edge(13, "4: NEAR above 3", MarkEdges::scanNears);
        edges.edge(13, "TURN (0 for one component, else 1 or 2)", MarkEdges::scanTurns);
        edges.edge(13, "TURN (0 for one component, else 1 or 2); the last byte.", MarkEdges::scanLastByte);
    }

    private static void scanLengths(Due due) {
        broken(due, 0, ONE, "FFDA 0002", 3);
        broken(due, 0, ONE, "FFDA 0002 01 0100 00 00 00", 3);
        broken(due, 0, ONE, "FFDA 0003 01", 3);
        broken(due, 0, ONE, "FFDA 0007 01 0100 00 00", 3);
        broken(due, 0, ONE, "FFDA 0009 01 0100 00 00 00 00", 3);
        broken(due, 0, ONE, "FFDA 0009 01 0900 00 00 00 00", 3);
        broken(due, 0, ONE, "FFDA 0008 00 0100 00 00 00", 3);
        broken(due, 0, ONE, "FFDA 0008 02 0100 00 00 00", 3);
        broken(due, 0, ONE, "FFDA 0108 01 0100 00 00 00" + "00".repeat(256), 3);
        taken(due, 0, ONE + Parts.scan(0, 0, 1));
        taken(due, 0, BEGIN + Parts.frame(1, 1, 2, 4) + Parts.scan(0, 1, 1, 2, 3, 4));
    }

    private static void scanCounts(Due due) {
        broken(due, 0, ONE, Parts.scan(0, 0), 4);
        broken(due, 0, ONE, Parts.scan(0, 1, 1, 2), 4);
        broken(due, 0, TWO, Parts.scan(0, 1, 1, 2, 3), 4);
        broken(due, 0, THREE, Parts.scan(0, 1, 1, 2), 4);
        broken(due, 0, THREE, Parts.scan(0, 0), 4);
        broken(due, 0, BEGIN + Parts.frame(1, 1, 2, 4), Parts.scan(0, 1, 1, 2, 3, 4, 5), 4);
        // How many is looked at before which ones: these would be 6.
        broken(due, 0, THREE, Parts.scan(0, 1, 9, 9), 4);
        broken(due, 0, ONE, "FFDA 0204 FF" + "0900".repeat(255) + "000000", 4);
        taken(due, 0, THREE + Parts.scan(0, 0, 2));
        taken(due, 0, THREE + Parts.scan(0, 2, 1, 2, 3));
    }

    private static void scanComponents(Due due) {
        broken(due, 0, ONE, Parts.scan(0, 0, 0), 6);
        broken(due, 0, ONE, Parts.scan(0, 0, 2), 6);
        broken(due, 0, ONE, Parts.scan(0, 0, 255), 6);
        broken(due, 0, BEGIN + Parts.frame(1, 1, 2, 4), Parts.scan(0, 0, 5), 6);
        broken(due, 0, TWO, Parts.scan(0, 1, 0, 1), 6);
        broken(due, 0, TWO, Parts.scan(0, 1, 3, 2), 6);
        broken(due, 0, TWO, Parts.scan(0, 1, 1, 3), 6);
        // NEAR and TURN come behind the components.
        broken(due, 0, ONE, Parts.scan(9, 9, 2), 6);
        broken(due, 0, ONE, "FFDA 0008 01 0209 00 00 00", 6);
        taken(due, 0, BEGIN + Parts.frame(1, 1, 2, 4) + Parts.scan(0, 0, 4));
    }

    private static void scanOrder(Due due) {
        broken(due, 0, TWO, Parts.scan(0, 1, 2, 1), 4);
        broken(due, 0, TWO, Parts.scan(0, 1, 1, 1), 4);
        broken(due, 0, TWO, Parts.scan(0, 1, 2, 2), 4);
        broken(due, 0, THREE, Parts.scan(0, 1, 1, 3, 2), 4);
        broken(due, 0, THREE, Parts.scan(0, 1, 1, 2, 1), 4);
        // Not in order is met before 5.
        broken(due, 1, TWO + FIRST, Parts.scan(0, 1, 2, 1), 4);
        whole(due, 2, 2, TWO + SECOND + FIRST + END);
    }

    private static void scannedBefore(Due due) {
        broken(due, 1, ONE + FIRST, FIRST, 5);
        broken(due, 1, TWO + SECOND, SECOND, 5);
        broken(due, 1, TWO + FIRST, Parts.scan(0, 1, 1, 2), 5);
        broken(due, 1, TWO + SECOND, Parts.scan(0, 1, 1, 2), 5);
        broken(due, 1, TWO + Parts.scan(0, 1, 1, 2) + "90", SECOND, 5);
        // Met before its TABLE, NEAR and TURN, and before the next component.
        broken(due, 1, TWO + FIRST, "FFDA 0008 01 0107 09 09 09", 5);
        broken(due, 1, TWO + FIRST, Parts.scan(0, 1, 1, 3), 5);
        // 6 is met before, at the component that is none.
        broken(due, 1, TWO + SECOND, Parts.scan(0, 1, 3, 2), 6);
    }

    private static void scanTables(Due due) {
        broken(due, 0, ONE, "FFDA 0008 01 0101 00 00 00", 4);
        broken(due, 0, ONE + TABLE, "FFDA 0008 01 0102 00 00 00", 4);
        broken(due, 0, ONE + TABLE, "FFDA 0008 01 01FF 00 00 00", 4);
        broken(due, 0, TWO + TABLE, "FFDA 0008 01 0201 00 00 00", 4);
        broken(due, 0, TWO + TABLE, "FFDA 0008 01 0202 00 00 00", 4);
        broken(due, 0, TWO + TABLE, "FFDA 000A 02 0101 0201 00 01 00", 4);
        // The first component's TABLE is met before the second one, which is none.
        broken(due, 0, TWO, "FFDA 000A 02 0101 0300 00 01 00", 4);
        whole(due, 1, 1, ONE + TABLE + "FFDA 0008 01 0101 00 00 00 80" + END);
        whole(due, 1, 1, ONE + TABLE + "FFDA 0008 01 0100 00 00 00 80" + END);
        whole(due, 2, 1, TWO + TABLE + "FFDA 000A 02 0101 0200 00 01 00 90" + END);
    }

    private static void scanNears(Due due) {
        whole(due, 1, 1, ONE + Parts.scan(3, 0, 1) + "80" + END);
        whole(due, 1, 1, ONE + Parts.scan(0, 0, 1) + "80" + END);
        broken(due, 0, ONE, Parts.scan(4, 0, 1), 4);
        broken(due, 0, ONE, Parts.scan(255, 0, 1), 4);
        whole(due, 2, 1, TWO + Parts.scan(3, 2, 1, 2) + "90" + END);
        broken(due, 0, TWO, Parts.scan(4, 2, 1, 2), 4);
    }

    private static void scanTurns(Due due) {
        broken(due, 0, ONE, Parts.scan(0, 1, 1), 4);
        broken(due, 0, ONE, Parts.scan(0, 2, 1), 4);
        broken(due, 0, TWO, Parts.scan(0, 1, 2), 4);
        broken(due, 0, TWO, Parts.scan(0, 0, 1, 2), 4);
        broken(due, 0, TWO, Parts.scan(0, 3, 1, 2), 4);
        broken(due, 0, TWO, Parts.scan(0, 255, 1, 2), 4);
        whole(due, 2, 1, TWO + Parts.scan(0, 1, 1, 2) + "90" + END);
        whole(due, 2, 1, TWO + Parts.scan(0, 2, 1, 2) + "90" + END);
    }

    private static void scanLastByte(Due due) {
        broken(due, 0, ONE, "FFDA 0008 01 0100 00 00 01", 4);
        broken(due, 0, ONE, "FFDA 0008 01 0100 00 00 FF", 4);
        broken(due, 0, TWO, "FFDA 000A 02 0100 0200 00 01 01", 4);
        taken(due, 0, ONE + "FFDA 0008 01 0100 00 00 00");
    }
}
