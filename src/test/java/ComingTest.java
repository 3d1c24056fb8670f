/** Promises 10, 11, 12 and 18: feed, pass, alter, drop. */
public final class ComingTest {
    private static final int LOW = Integer.MIN_VALUE;
    private static final int HIGH = Integer.MAX_VALUE;

    public static void main(String[] args) {
        Due due = new Due("ComingTest");
        feeding(due);
        passing(due);
        noRoom(due);
        altering(due);
        dropping(due);
        due.end();
    }

    private static LineFrames least() {
        LineFrames x = new LineFrames(0);
        x.picture(1, 1, 2, 1);
        x.write(0);
        return x;
    }

    private static void feeding(Due due) {
        LineFrames x = new LineFrames(0);
        due.same("feed(0)", x.feed(0), 1);
        due.same("feed(255)", x.feed(255), 2);
        for (int b : new int[] {-1, 256, LOW, HIGH}) {
            due.argument("feed(" + b + ")", () -> x.feed(b));
        }
        due.same("told(4)", x.told(4), 2);
        due.same("told(3)", x.told(3), 0);
        due.same("alter(0, 0)", x.alter(0, 0), 0);
        due.same("alter(1, 0)", x.alter(1, 0), 255);
    }

    private static void passing(Due due) {
        LineFrames x = least();
        due.same("pass(0, 0)", x.pass(0, 0), 0);
        due.same("told(4) behind none", x.told(4), 0);
        due.same("pass(0, 3)", x.pass(0, 3), 3);
        due.same("pass(3, 24)", x.pass(3, 24), 24);
        due.same("read() of a part", x.read(), -28);
        due.same("pass(27, HIGH)", x.pass(27, HIGH), 1);
        due.same("told(4)", x.told(4), 28);
        due.same("read() of all", x.read(), 1);
        for (int from : new int[] {-1, 28, LOW, HIGH}) {
            due.index("pass(" + from + ", 1)", () -> x.pass(from, 1));
            due.index("pass(" + from + ", -1)", () -> x.pass(from, -1));
            due.index("pass(" + from + ", 0)", () -> x.pass(from, 0));
        }
        due.argument("pass(0, -1)", () -> x.pass(0, -1));
        due.argument("pass(0, LOW)", () -> x.pass(0, LOW));
        due.same("told(4) behind wrong ones", x.told(4), 28);
        for (int i = 0; i < 28; i++) {
            due.same("alter(" + i + ", 7)", x.alter(i, 7), x.byteAt(i));
        }
        due.same("byteAt(0) behind alter", x.byteAt(0), 255);
    }

    private static void noRoom(Due due) {
        LineFrames x = new LineFrames(0);
        x.picture(12, 12, 8, 4);
        for (int c = 0; c < 4; c++) {
            x.table(c, 1, c);
        }
        int size = x.write(0);
        int whole = 6000 / size;
        for (int i = 0; i < whole; i++) {
            due.same("pass of all", x.pass(0, 6000), size);
        }
        int rest = 6000 - whole * size;
        due.room("pass of one more than there is room for", () -> x.pass(0, rest + 1));
        due.argument("pass of fewer than none", () -> x.pass(0, -1));
        due.same("told(4) behind them", x.told(4), 6000 - rest);
        due.same("pass of as many as there is room for", x.pass(0, rest - 1), rest - 1);
        due.same("the last feed", x.feed(9), 6000);
        due.room("a feed more", () -> x.feed(9));
        due.argument("a wrong feed more", () -> x.feed(256));
        due.room("pass(0, 1) more", () -> x.pass(0, 1));
        due.same("pass(0, 0) more", x.pass(0, 0), 0);
        due.same("told(4)", x.told(4), 6000);
        due.same("alter(5999, 8)", x.alter(5999, 8), 9);
        due.index("alter(6000, 8)", () -> x.alter(6000, 8));
        due.same("read() of too much", x.read(), -1 - size);
        due.same("told(5) of too much", x.told(5), 9);
        x.drop();
        due.same("feed behind drop", x.feed(1), 1);
    }

    private static void altering(Due due) {
        LineFrames x = least();
        x.pass(0, 3);
        due.same("alter(2, 0)", x.alter(2, 0), 255);
        due.same("alter(2, 255)", x.alter(2, 255), 0);
        for (int i : new int[] {-1, 3, LOW, HIGH}) {
            due.index("alter(" + i + ", 0)", () -> x.alter(i, 0));
            due.index("alter(" + i + ", -1)", () -> x.alter(i, -1));
        }
        for (int b : new int[] {-1, 256, LOW, HIGH}) {
            due.argument("alter(0, " + b + ")", () -> x.alter(0, b));
        }
        due.same("alter(0, 255)", x.alter(0, 255), 255);
    }

    private static void dropping(Due due) {
        LineFrames x = least();
        x.pass(0, 28);
        x.read();
        x.drop();
        due.same("told(4)", x.told(4), 0);
        due.same("told(3)", x.told(3), 28);
        due.same("told(7)", x.told(7), 1);
        due.same("found(0) stays", x.found(0), 1);
        due.index("alter(0, 0)", () -> x.alter(0, 0));
        due.same("read()", x.read(), -1);
        due.state("found(0) behind it", () -> x.found(0));
        x.drop();
        due.same("pass(0, 28)", x.pass(0, 28), 28);
        due.same("read() again", x.read(), 1);
    }
}
