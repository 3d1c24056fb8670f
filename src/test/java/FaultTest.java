/** Promises 13 and 17: the fault and the place by which a reading is broken. */
public final class FaultTest {
    private static final String BEGIN = "FFD8";
    private static final String FRAME = "FFF7 000B 02 0002 0001 01 011100";
    private static final String TWO = "FFF7 000E 02 0002 0001 02 011100 021100";
    private static final String TABLE = "FFF8 000D 02 01 02 0001 0002 0003 0004";
    private static final String SCAN = "FFDA 0008 01 0100 00 00 00";
    private static final String DATA = "90";
    private static final int AT_2 = -3;

    private static final Due due = new Due("FaultTest");

    public static void main(String[] args) {
        due.reading(BEGIN + FRAME + SCAN + DATA + "FFD9", 1, 0, 0, 1);
        marks();
        order();
        lengths();
        notes();
        frames();
        presets();
        tables();
        restarts();
        scans();
        scanTails();
        data();
        restartMarks();
        firstOfSeveral();
        due.end();
    }

    private static int places(String hex) {
        return Due.bytes(hex).length;
    }

    /** Broken at the place behind what stands before. */
    private static void behind(String before, String rest, int fault) {
        due.reading(before + rest, -1 - places(before), fault, 0, scansIn(before));
    }

    private static void cut(String hex) {
        due.reading(hex, -1 - places(hex), 1, 0, scansIn(hex));
    }

    private static int scansIn(String hex) {
        return hex.contains(DATA + " ") ? 1 : 0;
    }

    private static void marks() {
        due.reading("", -1, 1, 0, 0);
        due.reading("00", -2, 1, 0, 0);
        due.reading("00D8", -1, 2, 0, 0);
        due.reading("FFD9", -1, 2, 0, 0);
        due.reading("FFF7", -1, 2, 0, 0);
        cut(BEGIN);
        cut(BEGIN + "00");
        String[] none = {"FFD8", "00D9", "FED9", "FFD0", "FFD7", "FFDB", "FFDC", "FFDE", "FFDF", "FFF0", "FFF6",
            "FFF9", "FFFD", "FFFF", "FF00"};
        for (String mark : none) {
            behind(BEGIN, mark, 2);
            behind(BEGIN + FRAME + SCAN + DATA + " ", mark, 2);
        }
        for (int code = 0xE0; code <= 0xEF; code++) {
            cut(BEGIN + String.format("FF%02X 0003 00", code));
        }
        cut(BEGIN + "FFFE 0002");
        String whole = BEGIN + FRAME + SCAN + DATA + " FFD9";
        due.reading(whole + "00", -1 - places(whole), 9, 0, 1);
        due.reading(whole + "FFD9", -1 - places(whole), 9, 0, 1);
    }

    private static void order() {
        for (String early : new String[] {"FFF8", "FFDD", "FFDA", "FFD9"}) {
            behind(BEGIN, early, 5);
            behind(BEGIN, early + "0000", 5);
        }
        behind(BEGIN + FRAME, "FFF7", 5);
        behind(BEGIN + FRAME, FRAME, 5);
        behind(BEGIN + FRAME, "FFD9", 5);
        behind(BEGIN + FRAME + SCAN + DATA + " ", "FFF7", 5);
        behind(BEGIN + FRAME + SCAN + DATA + " ", "FFF8", 5);
        behind(BEGIN + FRAME + SCAN + DATA + " ", "FFDD", 5);
        behind(BEGIN + TWO + SCAN + DATA + " ", "FFD9", 5);
        behind(BEGIN + FRAME + SCAN + DATA + " ", "FFD8", 2);
    }

    private static void lengths() {
        String[] before = {BEGIN, BEGIN, BEGIN, BEGIN + FRAME, BEGIN + FRAME, BEGIN + FRAME};
        String[] mark = {"FFE0", "FFFE", "FFF7", "FFF8", "FFDD", "FFDA"};
        for (int i = 0; i < mark.length; i++) {
            cut(before[i] + mark[i]);
            cut(before[i] + mark[i] + "00");
            behind(before[i], mark[i] + "0000", 3);
            behind(before[i], mark[i] + "0001", 3);
            behind(before[i], mark[i] + "0001 00", 3);
            cut(before[i] + mark[i] + "0003");
            cut(before[i] + mark[i] + "FFFF 00");
        }
    }

    private static String note(int bytes) {
        return String.format("FFE3 %04X", bytes + 2) + "07".repeat(bytes);
    }

    private static void notes() {
        cut(BEGIN + note(30));
        behind(BEGIN, note(31), 4);
        String six = BEGIN + note(0) + note(1) + note(2) + note(3) + note(4) + "FFFE 0002";
        cut(six);
        behind(six, note(0), 4);
        behind(six, note(31), 4);
        behind(six, "FFE0 0001", 3);
    }

    private static void frames() {
        String[] length = {"FFF7 0002", "FFF7 0007 02 0001 0001", "FFF7 0008 02 0001 0001 01",
            "FFF7 000A 02 0001 0001 01 0111", "FFF7 000C 02 0001 0001 01 011100 00",
            "FFF7 000B 02 0001 0001 02 011100", "FFF7 000B 09 0001 0001 00 011100"};
        for (String wrong : length) {
            behind(BEGIN, wrong, 3);
            behind(BEGIN, wrong + "00", 3);
        }
        String[] value = {"FFF7 000B 01 0001 0001 01 011100", "FFF7 000B 09 0001 0001 01 011100",
            "FFF7 000B 02 0000 0001 01 011100", "FFF7 000B 02 000D 0001 01 011100",
            "FFF7 000B 02 0101 0001 01 011100", "FFF7 000B 02 0001 0000 01 011100",
            "FFF7 000B 02 0001 000D 01 011100", "FFF7 000B 02 0001 0101 01 011100",
            "FFF7 0008 02 0001 0001 00", "FFF7 0017 02 0001 0001 05 011100 021100 031100 041100 051100",
            "FFF7 000B 02 0001 0001 01 001100", "FFF7 000B 02 0001 0001 01 021100",
            "FFF7 000B 02 0001 0001 01 011000", "FFF7 000B 02 0001 0001 01 011101",
            "FFF7 000E 02 0001 0001 02 021100 011100", "FFF7 000E 02 0001 0001 02 011100 011100",
            "FFF7 000E 02 0001 0001 02 011100 021200", "FFF7 000E 02 0001 0001 02 011100 0211FF"};
        for (String wrong : value) {
            behind(BEGIN, wrong, 4);
        }
        cut(BEGIN + "FFF7 0014 08 000C 000C 04 011100 021100 031100 041100");
    }

    private static void presets() {
        behind(BEGIN + FRAME, "FFF8 0002 00", 3);
        behind(BEGIN + FRAME, "FFF8 0003 00", 4);
        behind(BEGIN + FRAME, "FFF8 0003 03", 4);
        behind(BEGIN + FRAME, "FFF8 0003 01", 3);
        behind(BEGIN + FRAME, "FFF8 0004 01 40", 3);
        behind(BEGIN + FRAME, "FFF8 0006 01 40 04 00", 3);
        behind(BEGIN + FRAME, "FFF8 0006 01 00 00 00", 3);
        behind(BEGIN + FRAME, "FFF8 0005 01 02 04", 4);
        behind(BEGIN + FRAME, "FFF8 0005 01 03 00", 4);
        cut(BEGIN + FRAME + "FFF8 0005 01 03 01 FFF8 0005 01 FF FF");
    }

    private static void tables() {
        cut(BEGIN + FRAME + TABLE);
        behind(BEGIN + FRAME, "FFF8 0003 02", 3);
        behind(BEGIN + FRAME, "FFF8 000C 02 01 02 0001 0002 0003 00", 3);
        behind(BEGIN + FRAME, "FFF8 000E 02 09 02 0001 0002 0003 0004 00", 3);
        behind(BEGIN + FRAME, "FFF8 000D 02 00 02 0001 0002 0003 0004", 6);
        behind(BEGIN + FRAME, "FFF8 000D 02 02 02 0001 0002 0003 0004", 6);
        behind(BEGIN + FRAME, "FFF8 000D 02 02 01 0001 0002 0003 0004", 6);
        behind(BEGIN + FRAME, "FFF8 000D 02 01 01 0001 0002 0003 0004", 4);
        behind(BEGIN + FRAME, "FFF8 000D 02 01 03 0001 0002 0003 0004", 4);
        behind(BEGIN + FRAME + TABLE, TABLE, 5);
        behind(BEGIN + FRAME + TABLE, "FFF8 000D 02 01 01 0001 0002 0003 0004", 5);
        behind(BEGIN + FRAME + TABLE, "FFF8 000D 02 02 01 0001 0002 0003 0004", 6);
        cut(BEGIN + TWO + TABLE + "FFF8 000D 02 02 02 0001 0002 0003 0004");
    }

    private static void restarts() {
        behind(BEGIN + FRAME, "FFDD 0002", 3);
        behind(BEGIN + FRAME, "FFDD 0003 00", 3);
        behind(BEGIN + FRAME, "FFDD 0005 0100 00", 3);
        behind(BEGIN + FRAME, "FFDD 0004 000D", 4);
        behind(BEGIN + FRAME, "FFDD 0004 0100", 4);
        cut(BEGIN + FRAME + "FFDD 0004 000C FFDD 0004 0000");
    }

    private static void scans() {
        behind(BEGIN + FRAME, "FFDA 0002 00", 3);
        behind(BEGIN + FRAME, "FFDA 0003 01", 3);
        behind(BEGIN + FRAME, "FFDA 0007 01 0100 00 00", 3);
        behind(BEGIN + FRAME, "FFDA 0009 01 0200 09 00 00 00", 3);
        behind(BEGIN + FRAME, "FFDA 0008 02 0100 0200 00", 3);
        behind(BEGIN + FRAME, "FFDA 0006 00 00 00 00", 4);
        behind(BEGIN + FRAME, "FFDA 000A 02 0100 0200 00 01 00", 4);
        behind(BEGIN + "FFF7 0011 02 0001 0001 03 011100 021100 031100", "FFDA 000A 02 0100 0200 00 01 00", 4);
        behind(BEGIN + FRAME, "FFDA 0008 01 0000 00 00 00", 6);
        behind(BEGIN + FRAME, "FFDA 0008 01 0200 09 00 00", 6);
        behind(BEGIN + TWO, "FFDA 000A 02 0200 0100 00 01 00", 4);
        behind(BEGIN + TWO, "FFDA 000A 02 0100 0100 00 01 00", 4);
        behind(BEGIN + TWO, "FFDA 000A 02 0200 0300 00 01 00", 4);
        behind(BEGIN + TWO, "FFDA 000A 02 0300 0100 00 01 00", 6);
        behind(BEGIN + TWO, "FFDA 000A 02 0100 0300 09 01 00", 6);
        behind(BEGIN + TWO, "FFDA 000A 02 0101 0300 00 01 00", 4);
        behind(BEGIN + TWO + SCAN + DATA + " ", "FFDA 000A 02 0100 0200 00 01 00", 5);
        behind(BEGIN + TWO + SCAN + DATA + " ", "FFDA 000A 02 0200 0100 00 01 00", 4);
        behind(BEGIN + TWO + SCAN + DATA + " ", "FFDA 000A 02 0100 0300 00 01 00", 5);
        behind(BEGIN + TWO + SCAN + DATA + " ", SCAN, 5);
        behind(BEGIN + TWO + SCAN + DATA + " ", "FFDA 0008 01 0107 09 00 00", 5);
        behind(BEGIN + FRAME + SCAN + DATA + " ", SCAN + DATA, 5);
        behind(BEGIN + FRAME, "FFDA 0008 01 0101 00 00 00", 4);
        behind(BEGIN + FRAME + TABLE, "FFDA 0008 01 0102 00 00 00", 4);
        behind(BEGIN + TWO + TABLE, "FFDA 0008 01 0201 00 00 00", 4);
        behind(BEGIN + TWO + TABLE, "FFDA 0008 01 0202 00 00 00", 4);
        cut(BEGIN + FRAME + TABLE + "FFDA 0008 01 0101 00 00 00");
        cut(BEGIN + FRAME + TABLE + SCAN);
    }

    private static void scanTails() {
        behind(BEGIN + FRAME, "FFDA 0008 01 0100 04 00 00", 4);
        cut(BEGIN + FRAME + "FFDA 0008 01 0100 03 00 00");
        behind(BEGIN + FRAME, "FFDA 0008 01 0100 00 01 00", 4);
        behind(BEGIN + FRAME, "FFDA 0008 01 0100 00 02 00", 4);
        behind(BEGIN + FRAME, "FFDA 0008 01 0100 00 00 01", 4);
        behind(BEGIN + TWO, "FFDA 000A 02 0100 0200 00 00 00", 4);
        behind(BEGIN + TWO, "FFDA 000A 02 0100 0200 00 03 00", 4);
        behind(BEGIN + TWO, "FFDA 000A 02 0100 0200 FF 01 00", 4);
        behind(BEGIN + TWO, "FFDA 000A 02 0100 0200 00 01 80", 4);
        cut(BEGIN + TWO + "FFDA 000A 02 0100 0200 03 01 00");
        cut(BEGIN + TWO + "FFDA 000A 02 0100 0200 03 02 00");
    }

    /** FRAME has two samples: by k 2 and, behind a 0, by k 1. */
    private static void data() {
        String head = BEGIN + FRAME + SCAN;
        cut(head);
        cut(head + "04");
        behind(head, "94", 7);
        behind(head, "91", 7);
        behind(head, "91 00", 7);
        // 21 bits 0: the last one is in the third byte.
        behind(head + "0000", "00 00", 7);
        behind(head + "0000", "07", 7);
        cut(head + "0000");
        cut(head + "0000 08");
        cut(head + "0000 08 00");
        behind(head + "8000", "0080", 7);
        // 0100 and 20 bits 0, and then one more, the highest of a byte.
        cut(head + "400000");
        behind(head + "400000", "00", 7);
        behind(head + "400000", "7F", 7);
        String wide = BEGIN + "FFF7 000B 02 0001 0009 01 011100 FFF8 0005 01 40 01" + SCAN;
        due.reading(wide + "FF40 FFD9", 1, 0, 0, 1);
        cut(wide + "FF");
        behind(wide + "FF", "80", 7);
        behind(wide + "FF", "C0", 7);
        behind(wide + "FF", "FF", 7);
        behind(wide + "FF", "60", 7);
        behind(wide + "FF", "41", 7);
        String eight = BEGIN + "FFF7 000B 02 0001 0008 01 011100 FFF8 0005 01 40 01" + SCAN;
        due.reading(eight + "FF00 FFD9", 1, 0, 0, 1);
        cut(eight + "FF");
        behind(eight + "FF", "01", 7);
        behind(eight + "FF", "80", 7);
        behind(eight + "FF", "FFD9", 7);
        String seven = BEGIN + "FFF7 000B 02 0001 0007 01 011100 FFF8 0005 01 40 01" + SCAN;
        due.reading(seven + "FE FFD9", 1, 0, 0, 1);
        behind(seven, "FF", 7);
        behind(seven, "FF 00 FFD9", 7);
    }

    private static void restartMarks() {
        String head = BEGIN + "FFF7 000B 02 0003 0001 01 011100 FFDD 0004 0001" + SCAN + "80";
        cut(head);
        cut(head + "FF");
        cut(head + "00");
        behind(head, "00D0", 8);
        behind(head, "FFD1", 8);
        behind(head, "FFD9", 8);
        behind(head, "8080", 8);
        behind(BEGIN + "FFF7 000B 02 0003 0001 01 011100 FFDD 0004 0001" + SCAN, "81 FFD0", 7);
        String one = head + "FFD0 80";
        due.reading(one, -1 - places(one), 1, 1, 0);
        due.reading(one + "FFD0 80", -1 - places(one), 8, 1, 0);
        due.reading(one + "FFD2 80", -1 - places(one), 8, 1, 0);
        due.reading(one + "FFD1 80 FFD9", 1, 0, 2, 1);
        due.reading(one + "FFD1", -1 - places(one + "FFD1"), 1, 2, 0);
        String whole = one + "FFD1 80";
        due.reading(whole + "FFD2", -1 - places(whole), 2, 2, 1);
        String full = BEGIN + "FFF7 000B 02 0002 0008 01 011100 FFF8 0005 01 40 01 FFDD 0004 0001" + SCAN;
        due.reading(full + "FF00 FFD0 FF00 FFD9", 1, 0, 1, 1);
        behind(full + "FF", "FFD0 FF00 FFD9", 7);
        behind(full + "FF00", "00 FFD0 FF00 FFD9", 8);
        due.reading(full + "FF00 FFD0 FFFF", -1 - places(full + "FF00 FFD0 FF"), 7, 1, 0);
    }

    private static void firstOfSeveral() {
        due.reading("FFD8 FFDA", AT_2, 5, 0, 0);
        due.reading("FFD8 FFE0 0001 00", AT_2, 3, 0, 0);
        due.reading("FFD8 00", -4, 1, 0, 0);
        due.reading("FFD8 FFF7 0017 01", -8, 1, 0, 0);
    }
}
