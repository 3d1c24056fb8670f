/** Promises 2 to 5: picture, put, preset, table. */
public final class PictureTest {
    private static final int LOW = Integer.MIN_VALUE;
    private static final int HIGH = Integer.MAX_VALUE;

    public static void main(String[] args) {
        Due due = new Due("PictureTest");
        pictures(due);
        newPictureIsAsAtFirst(due);
        otherThingsStay(due);
        samples(due);
        presets(due);
        tables(due);
        due.end();
    }

    private static void pictures(Due due) {
        LineFrames x = new LineFrames(0);
        due.same("picture(1, 1, 2, 1)", x.picture(1, 1, 2, 1), 1);
        due.same("picture(12, 12, 8, 4)", x.picture(12, 12, 8, 4), 576);
        due.same("picture(5, 7, 3, 2)", x.picture(5, 7, 3, 2), 70);
        int[][] wrong = {
            {0, 1, 8, 1}, {13, 1, 8, 1}, {LOW, 1, 8, 1}, {HIGH, 1, 8, 1},
            {1, 0, 8, 1}, {1, 13, 8, 1}, {1, LOW, 8, 1}, {1, HIGH, 8, 1},
            {1, 1, 1, 1}, {1, 1, 9, 1}, {1, 1, LOW, 1}, {1, 1, HIGH, 1},
            {1, 1, 8, 0}, {1, 1, 8, 5}, {1, 1, 8, LOW}, {1, 1, 8, HIGH}};
        x.put(1, 4, 6, 7);
        x.note(3);
        for (int[] w : wrong) {
            due.argument("picture of " + w[0] + ", " + w[1] + ", " + w[2] + ", " + w[3],
                    () -> x.picture(w[0], w[1], w[2], w[3]));
        }
        due.same("told(1) behind wrong pictures", x.told(1), 2);
        due.same("told(2) behind wrong pictures", x.told(2), 1);
        due.same("put behind wrong pictures", x.put(1, 4, 6, 0), 7);
    }

    private static void newPictureIsAsAtFirst(Due due) {
        LineFrames x = new LineFrames(0);
        x.picture(2, 2, 4, 2);
        x.put(1, 1, 1, 9);
        x.preset(0, 7);
        x.preset(1, 8);
        x.preset(2, 9);
        x.table(1, 0, 76);
        x.table(1, 3, 77);
        x.table(1, 15, 78);
        x.note(5);
        x.picture(2, 2, 4, 2);
        due.same("put of a new picture", x.put(1, 1, 1, 0), 0);
        due.same("RESET of a new picture", x.preset(0, 64), 64);
        due.same("START of a new picture", x.preset(1, 4), 4);
        due.same("RESTART of a new picture", x.preset(2, 0), 0);
        due.same("NOTES of a new picture", x.told(2), 0);
        due.index("byteOf of a new picture", () -> x.byteOf(0, 1));
        due.same("table of a new picture", x.table(1, 7, 5), -1);
        due.same("the first number of a new table", x.table(1, 0, 0), 0);
        due.same("a number of a new table", x.table(1, 3, 0), 0);
        due.same("the last number of a new table", x.table(1, 15, 0), 0);
        due.same("the other table", x.table(0, 3, 0), -1);
    }

    private static void otherThingsStay(Due due) {
        LineFrames x = new LineFrames(0);
        x.picture(1, 1, 2, 1);
        x.put(0, 0, 0, 2);
        int size = x.write(0);
        x.pass(0, size);
        x.read();
        x.picture(2, 1, 3, 3);
        due.same("what was written", x.told(3), size);
        due.same("a byte that was written", x.byteAt(1), 0xD8);
        due.same("what came", x.told(4), size);
        due.same("what was read", x.at(0, 0, 0, false), 2);
        due.same("how many were read", x.found(3), 1);
        due.same("scans that were read", x.told(7), 1);
    }

    private static void samples(Due due) {
        LineFrames x = new LineFrames(0);
        x.picture(3, 2, 2, 2);
        due.same("put(0, 2, 1, 3)", x.put(0, 2, 1, 3), 0);
        due.same("put(0, 2, 1, 1)", x.put(0, 2, 1, 1), 3);
        due.same("put(0, 2, 1, 0)", x.put(0, 2, 1, 0), 1);
        int[][] nowhere = {{-1, 0, 0}, {2, 0, 0}, {0, -1, 0}, {0, 3, 0}, {0, 0, -1}, {0, 0, 2},
            {LOW, 0, 0}, {HIGH, 0, 0}, {0, LOW, 0}, {0, HIGH, 0}, {0, 0, LOW}, {0, 0, HIGH}};
        for (int[] n : nowhere) {
            due.index("put of " + n[0] + ", " + n[1] + ", " + n[2], () -> x.put(n[0], n[1], n[2], 1));
            due.index("put of a wrong one at " + n[0] + ", " + n[1], () -> x.put(n[0], n[1], n[2], -1));
        }
        for (int v : new int[] {-1, 4, LOW, HIGH}) {
            due.argument("put of " + v, () -> x.put(1, 1, 1, v));
        }
        due.same("put behind wrong ones", x.put(1, 1, 1, 3), 0);
        x.picture(1, 1, 8, 1);
        due.same("put of 255", x.put(0, 0, 0, 255), 0);
        due.argument("put of 256", () -> x.put(0, 0, 0, 256));
    }

    private static void presets(Due due) {
        LineFrames x = new LineFrames(0);
        x.picture(1, 1, 2, 1);
        int[][] right = {{0, 3, 64}, {0, 255, 3}, {1, 1, 4}, {1, 255, 1}, {2, 12, 0}, {2, 0, 12}, {2, 1, 0}};
        for (int[] r : right) {
            due.same("preset of " + r[0] + ", " + r[1], x.preset(r[0], r[1]), r[2]);
        }
        int[][] wrong = {{0, 2}, {0, 256}, {0, LOW}, {0, HIGH}, {1, 0}, {1, 256}, {1, LOW}, {1, HIGH},
            {2, -1}, {2, 13}, {2, LOW}, {2, HIGH}, {-1, 5}, {3, 5}, {LOW, 5}, {HIGH, 5}};
        for (int[] w : wrong) {
            due.argument("preset of " + w[0] + ", " + w[1], () -> x.preset(w[0], w[1]));
        }
        due.same("RESET behind wrong ones", x.preset(0, 64), 255);
        due.same("START behind wrong ones", x.preset(1, 4), 255);
        due.same("RESTART behind wrong ones", x.preset(2, 0), 1);
    }

    private static void tables(Due due) {
        LineFrames x = new LineFrames(0);
        x.picture(1, 1, 3, 3);
        due.argument("table(0, 8, 0)", () -> x.table(0, 8, 0));
        due.argument("table(0, -1, 0)", () -> x.table(0, -1, 0));
        due.argument("table(0, 0, -1)", () -> x.table(0, 0, -1));
        due.argument("table(0, 0, 65536)", () -> x.table(0, 0, 65536));
        due.index("table(3, 0, 0)", () -> x.table(3, 0, 0));
        due.index("table(-1, 9, -1)", () -> x.table(-1, 9, -1));
        due.same("table(0, 0, 0) behind wrong ones", x.table(0, 0, 0), -1);
        due.same("table(0, 7, 65535)", x.table(0, 7, 65535), 0);
        due.same("table(0, 7, 1)", x.table(0, 7, 1), 65535);
        due.same("table(0, 7, 1) again", x.table(0, 7, 1), 1);
        due.same("table(2, 7, 0)", x.table(2, 7, 0), -1);
        due.same("table(2, 7, 1)", x.table(2, 7, 1), 0);
        due.same("table(1, 7, 1)", x.table(1, 7, 1), -1);
    }
}
