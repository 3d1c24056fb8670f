/** Promises 6, 7 and 16: note, byteOf, noteAt. */
public final class NotesTest {
    public static void main(String[] args) {
        Due due = new Due("NotesTest");
        notes(due);
        bytes(due);
        readAgain(due);
        due.end();
    }

    private static void notes(Due due) {
        LineFrames x = new LineFrames(0);
        x.picture(1, 1, 2, 1);
        for (int kind : new int[] {-1, 17, Integer.MIN_VALUE, Integer.MAX_VALUE}) {
            due.argument("note(" + kind + ")", () -> x.note(kind));
        }
        for (int n = 0; n < 6; n++) {
            due.same("note " + n, x.note(n == 5 ? 16 : 3 * n), n);
        }
        due.room("a seventh note", () -> x.note(0));
        due.argument("a seventh note of a wrong kind", () -> x.note(17));
        due.same("told(2)", x.told(2), 6);
    }

    private static void bytes(Due due) {
        LineFrames x = new LineFrames(0);
        x.picture(1, 1, 2, 1);
        due.index("byteOf without notes", () -> x.byteOf(0, 0));
        x.note(1);
        x.note(2);
        due.argument("byteOf(1, -1)", () -> x.byteOf(1, -1));
        due.argument("byteOf(1, 256)", () -> x.byteOf(1, 256));
        for (int i = 1; i <= 30; i++) {
            due.same("byte " + i, x.byteOf(1, i == 30 ? 255 : i), i);
        }
        due.room("a byte more than 30", () -> x.byteOf(1, 0));
        due.argument("a wrong byte more than 30", () -> x.byteOf(1, 256));
        due.index("byteOf(2, -1)", () -> x.byteOf(2, -1));
        due.index("byteOf(-1, 0)", () -> x.byteOf(-1, 0));
        due.same("the other note's first byte", x.byteOf(0, 0), 1);
    }

    private static void readAgain(Due due) {
        LineFrames x = new LineFrames(0);
        x.picture(1, 1, 2, 1);
        for (int n = 0; n < 6; n++) {
            x.note(n == 3 ? 16 : 15 - n);
            for (int i = 0; i < 6 * n; i++) {
                x.byteOf(n, 40 * n + i);
            }
        }
        x.write(0);
        x.pass(0, 6000);
        due.state("noteAt before reading", () -> x.noteAt(0, -1));
        due.same("read()", x.read(), 1);
        due.same("found(9)", x.found(9), 6);
        x.picture(1, 1, 2, 1);
        for (int n = 0; n < 6; n++) {
            int note = n;
            due.same("kind of " + n, x.noteAt(n, -1), n == 3 ? 16 : 15 - n);
            for (int i = 0; i < 6 * n; i++) {
                due.same("byte " + i + " of " + n, x.noteAt(n, i), 40 * n + i);
            }
            due.index("byte behind the last one of " + n, () -> x.noteAt(note, 6 * note));
            due.index("byte -2 of " + n, () -> x.noteAt(note, -2));
        }
        due.index("noteAt(6, -1)", () -> x.noteAt(6, -1));
        due.index("noteAt(-1, -1)", () -> x.noteAt(-1, -1));
        due.index("noteAt(0, MAX)", () -> x.noteAt(0, Integer.MAX_VALUE));
        due.index("noteAt(0, MIN)", () -> x.noteAt(0, Integer.MIN_VALUE));
    }
}
