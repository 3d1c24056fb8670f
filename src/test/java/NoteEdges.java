/** Boundary cases of promises 6, 7 and 16: note, byteOf, noteAt. */
final class NoteEdges {
    private static final int LOW = Integer.MIN_VALUE;
    private static final int HIGH = Integer.MAX_VALUE;
    private static final Class<IllegalStateException> STATE = IllegalStateException.class;
    private static final Class<IndexOutOfBoundsException> INDEX = IndexOutOfBoundsException.class;
    private static final Class<IllegalArgumentException> ARGUMENT = IllegalArgumentException.class;
    private static final Class<UnsupportedOperationException> ROOM = UnsupportedOperationException.class;
    private static final String NO_PICTURE = "IllegalState: there is no picture";
    private static final String NOTHING_READ = "nothing was READ.";
    private static final String NO_SUCH = "IndexOutOfBounds: there is no such component, sample, note or byte.";
    private static final String ANOTHER = "IllegalArgument: another number is none that is told.";
    private static final String NO_ROOM = "UnsupportedOperation: there is no room.";
    private static final String FIRST_ONE = "Of several that a call names, the first one.";
    private static final String NOTHING_CHANGES = "A call that throws changes nothing.";

    private NoteEdges() {
    }

    static void all(Edges edges) {
        notes(edges);
        bytes(edges);
        notesRead(edges);
    }

    private static LineFrames withNotes(int count) {
        LineFrames x = new LineFrames(0);
        x.picture(1, 1, 2, 1);
        for (int n = 0; n < count; n++) {
            x.note(n);
        }
        return x;
    }

    // ---- promise 6

    private static void notes(Edges edges) {
        edges.edge(6, "NOTES, at most 6", NoteEdges::sixNotes);
        edges.edge(6, "a kind 0 .. 16", NoteEdges::kinds);
        edges.edge(6, "A NOTE without bytes: which one.", NoteEdges::whichOne);
        edges.edge(6, NO_ROOM, due -> due.refused("a seventh note", ROOM, State::full, x -> x.note(0)));
        edges.edge(6, NO_PICTURE, due -> due.refused("note(0)", STATE, State::fresh, x -> x.note(0)));
        edges.edge(6, FIRST_ONE, NoteEdges::noteForSeveralReasons);
        edges.edge(6, NOTHING_CHANGES, NoteEdges::refusedNotes);
    }

    private static void sixNotes(Due due) {
        LineFrames x = withNotes(5);
        due.same("the sixth note", x.note(0), 5);
        due.same("told(2)", x.told(2), 6);
        due.room("the seventh note", () -> x.note(0));
        due.same("told(2) behind it", x.told(2), 6);
        due.same("a byte of the sixth", x.byteOf(5, 1), 1);
        x.picture(1, 1, 2, 1);
        due.same("the first note of a new picture", x.note(0), 0);
    }

    private static void kinds(Due due) {
        LineFrames x = withNotes(0);
        for (int kind : new int[] {LOW, -1, 17, HIGH}) {
            due.argument("note(" + kind + ")", () -> x.note(kind));
            due.same("told(2) behind it", x.told(2), 0);
        }
        due.same("note(0)", x.note(0), 0);
        due.same("note(15)", x.note(15), 1);
        due.same("note(16)", x.note(16), 2);
        due.same("note(16) again", x.note(16), 3);
        x.write(0);
        due.stream("kinds 0, 15, 16, 16", x, Parts.BEGIN + "FFE00002 FFEF0002 FFFE0002 FFFE0002"
                + Parts.frame(1, 1, 2, 1) + Parts.scan(0, 0, 1) + "80" + Parts.END);
    }

    private static void whichOne(Due due) {
        LineFrames x = withNotes(0);
        due.same("told(2) of none", x.told(2), 0);
        for (int n = 0; n < 6; n++) {
            due.same("note " + n, x.note(16 - n), n);
            due.same("told(2)", x.told(2), n + 1);
            due.same("the first byte", x.byteOf(n, n), 1);
        }
    }

    private static void noteForSeveralReasons(Due due) {
        due.refused("no picture, no kind", STATE, State::fresh, x -> x.note(-1));
        due.refused("no kind, no room", ARGUMENT, State::full, x -> x.note(17));
        due.refused("no kind below, no room", ARGUMENT, State::full, x -> x.note(-1));
    }

    private static void refusedNotes(Due due) {
        due.refused("note(-1)", ARGUMENT, State::rich, x -> x.note(-1));
        due.refused("note(17)", ARGUMENT, State::rich, x -> x.note(17));
        due.refused("note(16) of a full one", ROOM, State::full, x -> x.note(16));
    }

    // ---- promise 7

    private static void bytes(Edges edges) {
        edges.edge(7, "a kind 0 .. 16 and up to 30 bytes.", NoteEdges::thirtyBytes);
        edges.edge(7, "A byte more of a NOTE: how many it has.", NoteEdges::eachForItself);
        edges.edge(7, ANOTHER, NoteEdges::noByte);
        edges.edge(7, NO_SUCH, NoteEdges::noNote);
        edges.edge(7, NO_ROOM, due -> due.refused("byte 31", ROOM, State::full, x -> x.byteOf(5, 0)));
        edges.edge(7, NO_PICTURE, due -> due.refused("byteOf(0, 0)", STATE, State::fresh, x -> x.byteOf(0, 0)));
        edges.edge(7, FIRST_ONE, NoteEdges::byteForSeveralReasons);
        edges.edge(7, NOTHING_CHANGES, NoteEdges::refusedBytes);
    }

    private static void thirtyBytes(Due due) {
        LineFrames x = withNotes(2);
        for (int i = 1; i <= 29; i++) {
            x.byteOf(0, i);
        }
        due.same("byte 30", x.byteOf(0, 255), 30);
        due.room("byte 31", () -> x.byteOf(0, 0));
        due.room("byte 31 again", () -> x.byteOf(0, 255));
        due.same("the first byte of the next note", x.byteOf(1, 77), 1);
        x.write(0);
        due.same("how many bytes the first tells", x.byteAt(5), 32);
        due.same("its first byte", x.byteAt(6), 1);
        due.same("its last byte", x.byteAt(35), 255);
        due.same("the next note's mark", x.byteAt(37), 0xE1);
        due.same("how many bytes the next tells", x.byteAt(39), 3);
        due.same("its byte", x.byteAt(40), 77);
    }

    /** Six full notes, byte by byte in turn, keep their bytes apart. */
    private static void eachForItself(Due due) {
        LineFrames x = withNotes(6);
        for (int i = 0; i < 30; i++) {
            for (int n = 0; n < 6; n++) {
                due.same("byte " + i + " of " + n, x.byteOf(n, 40 * n + i), i + 1);
            }
        }
        int size = x.write(0);
        x.pass(0, size);
        due.same("read()", x.read(), 1);
        for (int n = 0; n < 6; n++) {
            due.same("the first byte of " + n, x.noteAt(n, 0), 40 * n);
            due.same("the last byte of " + n, x.noteAt(n, 29), 40 * n + 29);
        }
    }

    private static void noByte(Due due) {
        LineFrames x = withNotes(1);
        for (int b : new int[] {LOW, -1, 256, HIGH}) {
            due.argument("byteOf(0, " + b + ")", () -> x.byteOf(0, b));
        }
        due.same("byteOf(0, 0)", x.byteOf(0, 0), 1);
        due.same("byteOf(0, 255)", x.byteOf(0, 255), 2);
    }

    private static void noNote(Due due) {
        LineFrames none = withNotes(0);
        due.index("byteOf(0, 0) without notes", () -> none.byteOf(0, 0));
        LineFrames x = withNotes(2);
        for (int note : new int[] {LOW, -1, 2, HIGH}) {
            due.index("byteOf(" + note + ", 0)", () -> x.byteOf(note, 0));
        }
        due.same("the first note", x.byteOf(0, 0), 1);
        due.same("the last note", x.byteOf(1, 0), 1);
        LineFrames six = withNotes(6);
        due.index("byteOf(6, 0) of six", () -> six.byteOf(6, 0));
        due.same("the sixth note", six.byteOf(5, 0), 1);
    }

    private static void byteForSeveralReasons(Due due) {
        due.refused("no picture, no note, no byte", STATE, State::fresh, x -> x.byteOf(-1, -1));
        due.refused("no note, no byte", INDEX, State::rich, x -> x.byteOf(2, 256));
        due.refused("no note above six, no byte", INDEX, State::full, x -> x.byteOf(6, -1));
        due.refused("no byte, no room", ARGUMENT, State::full, x -> x.byteOf(5, 256));
        due.refused("no byte below, no room", ARGUMENT, State::full, x -> x.byteOf(5, -1));
    }

    private static void refusedBytes(Due due) {
        due.refused("byteOf(2, 0)", INDEX, State::rich, x -> x.byteOf(2, 0));
        due.refused("byteOf(-1, 0)", INDEX, State::rich, x -> x.byteOf(-1, 0));
        due.refused("byteOf(0, 256)", ARGUMENT, State::rich, x -> x.byteOf(0, 256));
        due.refused("byteOf(5, 3) of a full note", ROOM, State::full, x -> x.byteOf(5, 3));
    }

    // ---- promise 16

    private static void notesRead(Edges edges) {
        edges.edge(16, "Of a NOTE of what was READ its kind (i = -1), or byte i.", NoteEdges::kindAndBytes);
        edges.edge(16, NO_SUCH, NoteEdges::noSuchNoteOrByte);
        edges.edge(16, NOTHING_READ, NoteEdges::noteOfNothing);
        edges.edge(16, FIRST_ONE, due ->
                due.refused("nothing read, no note", STATE, State::fresh, x -> x.noteAt(-1, -2)));
        edges.edge(16, NOTHING_CHANGES, NoteEdges::refusedNoteAt);
    }

    /** An empty note, a note of one byte, a full one. */
    private static LineFrames threeRead() {
        LineFrames x = withNotes(0);
        x.note(0);
        x.note(15);
        x.byteOf(1, 255);
        x.note(16);
        for (int i = 0; i < 30; i++) {
            x.byteOf(2, 100 + i);
        }
        x.write(0);
        x.pass(0, 6000);
        x.read();
        x.picture(2, 2, 3, 1);
        return x;
    }

    private static void kindAndBytes(Due due) {
        LineFrames x = threeRead();
        due.same("the first kind", x.noteAt(0, -1), 0);
        due.same("the second kind", x.noteAt(1, -1), 15);
        due.same("its byte", x.noteAt(1, 0), 255);
        due.same("the last kind", x.noteAt(2, -1), 16);
        due.same("its first byte", x.noteAt(2, 0), 100);
        due.same("its last byte", x.noteAt(2, 29), 129);
    }

    private static void noSuchNoteOrByte(Due due) {
        LineFrames x = threeRead();
        int[][] nowhere = {{-1, -1}, {-1, 0}, {3, -1}, {3, 0}, {LOW, -1}, {HIGH, -1},
            {0, -2}, {0, 0}, {1, -2}, {1, 1}, {2, 30}, {2, LOW}, {2, HIGH}};
        for (int[] n : nowhere) {
            due.index("noteAt(" + n[0] + ", " + n[1] + ")", () -> x.noteAt(n[0], n[1]));
        }
        LineFrames none = withNotes(0);
        none.write(0);
        none.pass(0, 6000);
        none.read();
        due.same("found(9)", none.found(9), 0);
        due.index("noteAt(0, -1) of none", () -> none.noteAt(0, -1));
        none.note(3);
        due.index("noteAt(0, -1) of a note that was not read", () -> none.noteAt(0, -1));
    }

    private static void noteOfNothing(Due due) {
        LineFrames x = withNotes(1);
        due.state("noteAt before a reading", () -> x.noteAt(0, -1));
        x.write(0);
        x.pass(0, 6000);
        due.state("noteAt of what came", () -> x.noteAt(0, -1));
        due.same("read()", x.read(), 1);
        due.same("noteAt of what was read", x.noteAt(0, -1), 0);
        x.feed(0);
        due.same("noteAt before the next reading", x.noteAt(0, -1), 0);
        due.same("read() of a broken one", x.read(), -1 - x.told(3));
        due.state("noteAt of a broken one", () -> x.noteAt(0, -1));
    }

    private static void refusedNoteAt(Due due) {
        due.refused("noteAt(1, -1)", INDEX, State::rich, x -> x.noteAt(1, -1));
        due.refused("noteAt(0, 0)", INDEX, State::rich, x -> x.noteAt(0, 0));
    }
}
