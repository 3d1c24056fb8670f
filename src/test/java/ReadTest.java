/** Promises 13, 14, 15 and 17: read, at, found, told, of streams that are whole. */
public final class ReadTest {
    private static final int[] SAMPLES = {0, 1, 3, 2, 3, 3, 0, 1, 2, 2, 2, 1};

    public static void main(String[] args) {
        Due due = new Due("ReadTest");
        for (int turn = 0; turn <= 2; turn++) {
            readBack(due, turn);
        }
        byHand(due);
        lastOnesCount(due);
        componentsInAnyOrder(due);
        numbersBeyondTheRange(due);
        shiftsOf12AtMost(due);
        brokenThenWhole(due);
        due.end();
    }

    private static void readBack(Due due, int turn) {
        LineFrames x = new LineFrames(turn);
        x.picture(3, 2, 2, 2);
        for (int i = 0; i < 12; i++) {
            x.put(i / 6, i % 3, i / 3 % 2, SAMPLES[i]);
        }
        x.preset(0, 9);
        x.preset(1, 2);
        x.preset(2, 1);
        for (int v = 0; v < 4; v++) {
            x.table(1, v, 1000 * v + 5);
        }
        x.note(4);
        x.write(0);
        x.pass(0, 6000);
        due.same("read()", x.read(), 2);
        due.same("read() again", x.read(), 2);
        int[] found = {3, 2, 2, 2, 0, turn, 9, 2, 1, 1, -1};
        for (int what = 0; what < found.length; what++) {
            due.same("found(" + what + ")", x.found(what), found[what]);
        }
        due.same("found(-1)", x.found(-1), -1);
        due.same("found(MIN)", x.found(Integer.MIN_VALUE), -1);
        due.same("found(MAX)", x.found(Integer.MAX_VALUE), -1);
        for (int i = 0; i < 12; i++) {
            int v = SAMPLES[i];
            due.same("at " + i, x.at(i / 6, i % 3, i / 3 % 2, false), v);
            due.same("at " + i + " meant", x.at(i / 6, i % 3, i / 3 % 2, true), i < 6 ? v : 1000 * v + 5);
        }
        int[][] nowhere = {{-1, 0, 0}, {2, 0, 0}, {0, -1, 0}, {0, 3, 0}, {0, 0, -1}, {0, 0, 2},
            {Integer.MAX_VALUE, 0, 0}, {0, Integer.MIN_VALUE, 0}, {0, 0, Integer.MAX_VALUE}};
        for (int[] n : nowhere) {
            due.index("at " + n[0] + ", " + n[1] + ", " + n[2], () -> x.at(n[0], n[1], n[2], true));
        }
        int[] told = {turn, 2, 1, x.told(3), x.told(3), 0, turn == 0 ? 2 : 1, turn == 0 ? 2 : 1, -1};
        for (int what = 0; what < told.length; what++) {
            due.same("told(" + what + ")", x.told(what), told[what]);
        }
        due.same("told(-1)", x.told(-1), -1);
    }

    private static void byHand(Due due) {
        LineFrames x = new LineFrames(0);
        // 7, 9, 0; a restart; 0, 0, 15, each of four bits.
        Due.feedAll(x, Due.bytes("FFD8 FFF7 000B 04 0002 0003 01 011100 FFDD 0004 0001"
                + "FFDA 0008 01 0100 00 00 00 1B1C FFD0 96 FFD9"));
        due.same("read() by hand", x.read(), 1);
        int[] want = {7, 9, 0, 0, 0, 15};
        for (int i = 0; i < 6; i++) {
            due.same("by hand at " + i, x.at(0, i % 3, i / 3, true), want[i]);
        }
        // By NEAR 1: the error -1 by STEP 3 is -3, and with 6 more 3.
        LineFrames y = new LineFrames(0);
        Due.feedAll(y, Due.bytes("FFD8 FFF7 000B 02 0001 0001 01 011100 FFDA 0008 01 0100 01 00 00 A0 FFD9"));
        due.same("read() by NEAR 1", y.read(), 1);
        due.same("at by NEAR 1", y.at(0, 0, 0, false), 3);
        due.same("NEAR", y.found(4), 1);
        due.same("RESET as at first", y.found(6), 64);
        due.same("START as at first", y.found(7), 4);
        due.same("RESTART as at first", y.found(8), 0);
    }

    private static void lastOnesCount(Due due) {
        LineFrames x = new LineFrames(0);
        Due.feedAll(x, Due.bytes("FFD8 FFF7 000B 02 0002 0001 01 011100 FFF8 0005 01 05 FF FFDD 0004 0001"
                + "FFE1 0003 07 FFF8 0005 01 06 01 FFDD 0004 0000"
                + "FFF8 000D 02 01 02 0009 0008 0007 0006"
                + "FFDA 0008 01 0100 00 00 00 C0 FFE2 0002 FFD9"));
        due.same("read() of several", x.read(), 1);
        due.same("the last RESET", x.found(6), 6);
        due.same("the last START", x.found(7), 1);
        due.same("the last RESTART", x.found(8), 0);
        due.same("notes before and behind the scan", x.found(9), 2);
        due.same("the note behind the scan", x.noteAt(1, -1), 2);
        due.same("restarts", x.told(6), 0);
        due.same("a table that the scan does not name", x.at(0, 0, 1, true), 9);
        due.same("a sample under it", x.at(0, 0, 1, false), 0);
    }

    private static void componentsInAnyOrder(Due due) {
        LineFrames x = new LineFrames(0);
        String frame = "FFD8 FFF7 0011 02 0001 0001 03 011100 021100 031100";
        Due.feedAll(x, Due.bytes(frame + "FFDA 0008 01 0300 00 00 00 C0"
                + "FFDA 0008 01 0100 02 00 00 80 FFDA 0008 01 0200 00 00 00 A0 FFD9"));
        due.same("read() of scans in another order", x.read(), 3);
        due.same("at(0)", x.at(0, 0, 0, false), 0);
        due.same("at(1)", x.at(1, 0, 0, false), 3);
        due.same("at(2)", x.at(2, 0, 0, false), 1);
        due.same("NEAR of the last scan", x.found(4), 0);
        due.same("scans", x.told(7), 3);
    }

    /** A stream that nobody would write may tell an m that is more than any RANGE. */
    private static void numbersBeyondTheRange(Due due) {
        String head = "FFD8 FFF7 000B 02 0001 0001 01 011100 FFDA 0008 01 0100 00 00 00";
        int[][] ends = {{0x08, 0x38, 3}, {0x0F, 0xF8, 3}, {0x0F, 0xFC, 0}, {0x08, 0x20, 0}, {0x08, 0x10, 2}};
        for (int[] end : ends) {
            LineFrames x = new LineFrames(0);
            Due.feedAll(x, Due.bytes(head));
            Due.feedAll(x, new int[] {0, 0, end[0], end[1], 0xFF, 0xD9});
            due.same("read() beyond the range", x.read(), 1);
            due.same("at beyond the range by " + end[1], x.at(0, 0, 0, false), end[2]);
        }
        // By NEAR 3 the error -1 is -7; 14 more is above TOP and NEAR, but only what came first is looked at.
        LineFrames x = new LineFrames(0);
        Due.feedAll(x, Due.bytes("FFD8 FFF7 000B 02 0001 0001 01 011100 FFDA 0008 01 0100 03 00 00 A0 FFD9"));
        due.same("read() by NEAR 3", x.read(), 1);
        due.same("at by NEAR 3", x.at(0, 0, 0, false), 3);
    }

    /** By k 8 an error of -2560, so by k 11 one of -19968; then N 3 and A 22783 would want k 13. */
    private static void shiftsOf12AtMost(Due due) {
        LineFrames x = new LineFrames(0);
        Due.feedAll(x, Due.bytes("FFD8 FFF7 000B 08 0001 0003 01 011100 FFF8 0005 01 40 FF"
                + "FFDA 0008 01 0100 00 00 00 00 00 1F F0 00 01 7F F0 04 FFD9"));
        due.same("read() by k 12", x.read(), 1);
        due.same("at(0, 0) by k 8", x.at(0, 0, 0, false), 0);
        due.same("at(1, 0) by k 11", x.at(0, 1, 0, false), 0);
        due.same("at(2, 0) by k 12", x.at(0, 2, 0, false), 2);
    }

    private static void brokenThenWhole(Due due) {
        LineFrames x = new LineFrames(0);
        x.picture(1, 1, 2, 1);
        x.note(1);
        x.table(0, 0, 8);
        x.write(0);
        x.pass(0, 6000);
        due.same("read()", x.read(), 1);
        int last = x.told(4) - 1;
        x.alter(last, 0);
        due.same("found(9) before the next reading", x.found(9), 1);
        due.same("read() of a broken one", x.read(), -1 - (last - 1));
        due.same("told(5) of a broken one", x.told(5), 2);
        due.same("told(7) of a broken one", x.told(7), 1);
        due.state("at of a broken one", () -> x.at(0, 0, 0, false));
        due.state("at of nothing", () -> x.at(9, 0, 0, false));
        due.state("found of a broken one", () -> x.found(10));
        due.state("noteAt of a broken one", () -> x.noteAt(0, -1));
        x.alter(last, 0xD9);
        due.same("read() of a mended one", x.read(), 1);
        due.same("told(5) of a mended one", x.told(5), 0);
        due.same("told(7) of a mended one", x.told(7), 1);
        due.same("found(9) of a mended one", x.found(9), 1);
        x.picture(1, 1, 2, 1);
        x.write(0);
        x.drop();
        x.pass(0, 6000);
        x.read();
        due.same("no table of an earlier reading", x.at(0, 0, 0, true), 0);
        due.same("no note of an earlier reading", x.found(9), 0);
    }
}
