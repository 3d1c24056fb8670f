/** Promise 1: a new object; and the constant. */
public final class NewObjectTest {
    public static void main(String[] args) {
        Due due = new Due("NewObjectTest");
        int[][] turns = {{Integer.MIN_VALUE, 0}, {-1, 0}, {0, 0}, {1, 1}, {2, 2}, {3, 2}, {Integer.MAX_VALUE, 2}};
        for (int[] turn : turns) {
            due.same("told(0) of a new object of " + turn[0], new LineFrames(turn[0]).told(0), turn[1]);
        }
        due.same("NONE", LineFrames.NONE, -1);
        nothingIsThere(due);
        due.end();
    }

    private static void nothingIsThere(Due due) {
        LineFrames x = new LineFrames(1);
        for (int what = 1; what <= 7; what++) {
            due.same("told(" + what + ") of a new object", x.told(what), 0);
        }
        due.state("put", () -> x.put(-1, 0, 0, -1));
        due.state("preset", () -> x.preset(7, 0));
        due.state("table", () -> x.table(9, 0, -1));
        due.state("note", () -> x.note(-1));
        due.state("byteOf", () -> x.byteOf(0, -1));
        due.state("write", () -> x.write(9));
        due.state("at", () -> x.at(-1, 0, 0, false));
        due.state("found", () -> x.found(99));
        due.state("noteAt", () -> x.noteAt(-1, 0));
        due.index("byteAt", () -> x.byteAt(0));
        due.index("pass", () -> x.pass(0, -1));
        due.index("alter", () -> x.alter(0, 256));
    }
}
