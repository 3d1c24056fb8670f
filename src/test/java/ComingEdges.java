/** Boundary cases of promises 9 to 12 and 18: byteAt, feed, pass, alter, drop. */
final class ComingEdges {
    private static final int LOW = Integer.MIN_VALUE;
    private static final int HIGH = Integer.MAX_VALUE;
    private static final int LEAST = 28;
    private static final Class<IndexOutOfBoundsException> INDEX = IndexOutOfBoundsException.class;
    private static final Class<IllegalArgumentException> ARGUMENT = IllegalArgumentException.class;
    private static final Class<UnsupportedOperationException> ROOM = UnsupportedOperationException.class;
    private static final String NO_SUCH = "IndexOutOfBounds: there is no such component, sample, note or byte.";
    private static final String ANOTHER = "IllegalArgument: another number is none that is told.";
    private static final String NO_ROOM = "UnsupportedOperation: there is no room.";
    private static final String FIRST_ONE = "Of several that a call names, the first one.";
    private static final String NOTHING_CHANGES = "A call that throws changes nothing.";

    private ComingEdges() {
    }

    static void all(Edges edges) {
        bytesWritten(edges);
        feeding(edges);
        passing(edges);
        altering(edges);
        dropping(edges);
    }

    /** The least stream: 28 bytes, FFD8 .. 80FFD9. */
    private static LineFrames least() {
        LineFrames x = new LineFrames(0);
        x.picture(1, 1, 2, 1);
        x.write(0);
        return x;
    }

    /** The least stream is written, and so many bytes came. */
    private static LineFrames cameOf(int count) {
        LineFrames x = new LineFrames(0);
        x.picture(12, 12, 8, 4);
        for (int c = 0; c < 4; c++) {
            x.table(c, 0, 1);
        }
        x.write(0);
        while (x.told(4) < count) {
            x.pass(0, count - x.told(4));
        }
        x.picture(1, 1, 2, 1);
        x.write(0);
        return x;
    }

    // ---- promise 9

    private static void bytesWritten(Edges edges) {
        edges.edge(9, NO_SUCH, ComingEdges::noByteWritten);
        edges.edge(9, "A byte that was WRITTEN last.", ComingEdges::writtenLast);
        edges.edge(9, NOTHING_CHANGES, ComingEdges::refusedByteAt);
    }

    private static void noByteWritten(Due due) {
        LineFrames none = new LineFrames(0);
        due.index("byteAt(0) of nothing", () -> none.byteAt(0));
        none.picture(1, 1, 2, 1);
        due.index("byteAt(0) of a picture alone", () -> none.byteAt(0));
        none.feed(7);
        due.index("byteAt(0) of a byte that came", () -> none.byteAt(0));
        LineFrames x = least();
        for (int i : new int[] {LOW, -1, LEAST, 5999, 6000, HIGH}) {
            due.index("byteAt(" + i + ")", () -> x.byteAt(i));
        }
        due.same("the first byte", x.byteAt(0), 255);
        due.same("the last byte", x.byteAt(LEAST - 1), 0xD9);
    }

    private static void writtenLast(Due due) {
        LineFrames x = least();
        x.note(1);
        x.put(0, 0, 0, 2);
        due.same("byteAt(3) before the next write", x.byteAt(3), 0xF7);
        due.index("byteAt(28) before it", () -> x.byteAt(LEAST));
        due.same("a longer one", x.write(0), LEAST + 4);
        due.same("its byteAt(3)", x.byteAt(3), 0xE1);
        due.same("its last byte", x.byteAt(LEAST + 3), 0xD9);
        x.picture(1, 1, 2, 1);
        due.same("a shorter one", x.write(0), LEAST);
        due.index("a byte that the longer one had", () -> x.byteAt(LEAST));
        due.argument("write(4)", () -> x.write(4));
        due.same("byteAt(3) behind a refused write", x.byteAt(3), 0xF7);
    }

    private static void refusedByteAt(Due due) {
        due.refused("byteAt(0)", INDEX, State::fresh, x -> x.byteAt(0));
        due.refused("byteAt(-1)", INDEX, State::rich, x -> x.byteAt(-1));
        due.refused("byteAt of one more", INDEX, State::rich, x -> x.byteAt(x.told(3)));
    }

    // ---- promise 10

    private static void feeding(Edges edges) {
        edges.edge(10, "A byte more comes: how many there are.", ComingEdges::howManyThereAre);
        edges.edge(10, "UnsupportedOperation: there are 6000.", ComingEdges::sixThousand);
        edges.edge(10, ANOTHER, ComingEdges::noByteFed);
        edges.edge(10, FIRST_ONE, ComingEdges::feedForSeveralReasons);
        edges.edge(10, NOTHING_CHANGES, ComingEdges::refusedFeeds);
    }

    private static void howManyThereAre(Due due) {
        LineFrames x = new LineFrames(0);
        due.same("the first byte", x.feed(9), 1);
        due.same("the second byte", x.feed(9), 2);
        due.same("told(4)", x.told(4), 2);
        due.same("told(3)", x.told(3), 0);
    }

    private static void sixThousand(Due due) {
        LineFrames x = cameOf(5998);
        due.same("byte 5999", x.feed(1), 5999);
        due.same("byte 6000", x.feed(2), 6000);
        due.room("byte 6001", () -> x.feed(3));
        due.same("told(4)", x.told(4), 6000);
        due.same("the last byte", x.alter(5999, 4), 2);
        due.room("byte 6001 again", () -> x.feed(3));
        x.drop();
        due.same("the first byte behind drop", x.feed(3), 1);
    }

    private static void noByteFed(Due due) {
        LineFrames x = new LineFrames(0);
        for (int b : new int[] {LOW, -1, 256, HIGH}) {
            due.argument("feed(" + b + ")", () -> x.feed(b));
            due.same("told(4) behind it", x.told(4), 0);
        }
        due.same("feed(0)", x.feed(0), 1);
        due.same("feed(255)", x.feed(255), 2);
        due.same("the first byte", x.alter(0, 1), 0);
        due.same("the second byte", x.alter(1, 1), 255);
    }

    private static void feedForSeveralReasons(Due due) {
        due.refused("feed(256) of 6000", ARGUMENT, State::full, x -> x.feed(256));
        due.refused("feed(-1) of 6000", ARGUMENT, State::full, x -> x.feed(-1));
    }

    private static void refusedFeeds(Due due) {
        due.refused("feed(256)", ARGUMENT, State::rich, x -> x.feed(256));
        due.refused("feed(-1)", ARGUMENT, State::fresh, x -> x.feed(-1));
        due.refused("feed(0) of 6000", ROOM, State::full, x -> x.feed(0));
    }

    // ---- promise 11

    private static void passing(Edges edges) {
        edges.edge(11, "from one on that is there", ComingEdges::fromOneOn);
        edges.edge(11, "n or as many as there are: how many.", ComingEdges::asManyAsThereAre);
        edges.edge(11, "IllegalArgument: n is below 0.", ComingEdges::belowNone);
        edges.edge(11, NO_ROOM, ComingEdges::noRoomToPass);
        edges.edge(11, FIRST_ONE, ComingEdges::passForSeveralReasons);
        edges.edge(11, NOTHING_CHANGES, ComingEdges::refusedPasses);
    }

    private static void fromOneOn(Due due) {
        LineFrames none = new LineFrames(0);
        due.index("pass(0, 0) of nothing", () -> none.pass(0, 0));
        none.feed(1);
        due.index("pass(0, 1) of nothing written", () -> none.pass(0, 1));
        LineFrames x = least();
        for (int from : new int[] {LOW, -1, LEAST, HIGH}) {
            due.index("pass(" + from + ", 1)", () -> x.pass(from, 1));
            due.index("pass(" + from + ", 0)", () -> x.pass(from, 0));
        }
        due.same("told(4) behind them", x.told(4), 0);
        due.same("from the first one", x.pass(0, 1), 1);
        due.same("from the last one", x.pass(LEAST - 1, 1), 1);
        due.same("the first byte", x.alter(0, 0), 255);
        due.same("the last byte", x.alter(1, 0), 0xD9);
    }

    private static void asManyAsThereAre(Due due) {
        LineFrames x = least();
        due.same("pass(0, 0)", x.pass(0, 0), 0);
        due.same("told(4) behind none", x.told(4), 0);
        due.same("pass(0, 27)", x.pass(0, LEAST - 1), LEAST - 1);
        due.same("pass(27, 0)", x.pass(LEAST - 1, 0), 0);
        due.same("pass(0, 28)", x.pass(0, LEAST), LEAST);
        due.same("pass(0, 29)", x.pass(0, LEAST + 1), LEAST);
        due.same("pass(1, HIGH)", x.pass(1, HIGH), LEAST - 1);
        due.same("pass(27, HIGH)", x.pass(LEAST - 1, HIGH), 1);
        due.same("pass(27, 2)", x.pass(LEAST - 1, 2), 1);
        due.same("told(4)", x.told(4), 4 * LEAST);
        due.same("told(3)", x.told(3), LEAST);
    }

    private static void belowNone(Due due) {
        LineFrames x = least();
        due.argument("pass(0, -1)", () -> x.pass(0, -1));
        due.argument("pass(27, LOW)", () -> x.pass(LEAST - 1, LOW));
        due.same("told(4)", x.told(4), 0);
        due.same("pass(0, 0)", x.pass(0, 0), 0);
    }

    private static void noRoomToPass(Due due) {
        LineFrames x = cameOf(6000 - LEAST);
        due.same("as many as there is room for", x.pass(0, LEAST), LEAST);
        due.same("told(4)", x.told(4), 6000);
        due.room("one more", () -> x.pass(0, 1));
        due.same("none more", x.pass(0, 0), 0);
        LineFrames y = cameOf(6001 - LEAST);
        due.room("one more than there is room for", () -> y.pass(0, LEAST));
        due.room("as many as there are, one more than there is room for", () -> y.pass(0, HIGH));
        due.same("told(4) behind it", y.told(4), 6001 - LEAST);
        due.same("all but the first", y.pass(1, HIGH), LEAST - 1);
        due.same("told(4) of all", y.told(4), 6000);
        due.same("the last byte", y.alter(5999, 0), 0xD9);
    }

    private static void passForSeveralReasons(Due due) {
        due.refused("no byte, n below 0", INDEX, State::fresh, x -> x.pass(0, -1));
        due.refused("no byte, n below 0, no room", INDEX, State::full, x -> x.pass(-1, -1));
        due.refused("no byte, no room", INDEX, State::full, x -> x.pass(x.told(3), 1));
        due.refused("n below 0, no room", ARGUMENT, State::full, x -> x.pass(0, -1));
    }

    private static void refusedPasses(Due due) {
        due.refused("pass(-1, 1)", INDEX, State::rich, x -> x.pass(-1, 1));
        due.refused("pass(0, -1)", ARGUMENT, State::rich, x -> x.pass(0, -1));
        due.refused("pass(0, 1) of 6000", ROOM, State::full, x -> x.pass(0, 1));
        due.refused("pass(0, 28) of 5999", ROOM, () -> cameOf(5999), x -> x.pass(0, LEAST));
    }

    // ---- promise 12

    private static void altering(Edges edges) {
        edges.edge(12, "A byte that came becomes another one: what it was.", ComingEdges::whatItWas);
        edges.edge(12, NO_SUCH, ComingEdges::noByteCame);
        edges.edge(12, ANOTHER, ComingEdges::noByteToBecome);
        edges.edge(12, FIRST_ONE, ComingEdges::alterForSeveralReasons);
        edges.edge(12, NOTHING_CHANGES, ComingEdges::refusedAlters);
    }

    private static void whatItWas(Due due) {
        LineFrames x = least();
        x.pass(0, HIGH);
        due.same("the first byte", x.alter(0, 0), 255);
        due.same("the first byte again", x.alter(0, 255), 0);
        due.same("the last byte", x.alter(LEAST - 1, 255), 0xD9);
        due.same("the last byte again", x.alter(LEAST - 1, 0xD9), 255);
        due.same("what was written", x.byteAt(LEAST - 1), 0xD9);
        due.same("told(4)", x.told(4), LEAST);
        due.same("read()", x.read(), 1);
        x.alter(0, 0);
        due.same("what was read", x.found(0), 1);
        due.same("what was written, first", x.byteAt(0), 255);
    }

    private static void noByteCame(Due due) {
        LineFrames none = least();
        due.index("alter(0, 0) of none", () -> none.alter(0, 0));
        LineFrames x = least();
        x.pass(0, 3);
        for (int i : new int[] {LOW, -1, 3, LEAST - 1, HIGH}) {
            due.index("alter(" + i + ", 0)", () -> x.alter(i, 0));
        }
        due.same("alter(2, 0)", x.alter(2, 0), 255);
        x.drop();
        due.index("alter(0, 0) behind drop", () -> x.alter(0, 0));
        LineFrames full = State.full();
        due.index("alter(6000, 0)", () -> full.alter(6000, 0));
        due.same("alter(0, 0)", full.alter(0, 0) >= 0 ? 1 : 0, 1);
        due.same("alter(5999, 7)", full.alter(5999, 7) >= 0 ? 1 : 0, 1);
        due.same("alter(5999, 0)", full.alter(5999, 0), 7);
    }

    private static void noByteToBecome(Due due) {
        LineFrames x = new LineFrames(0);
        x.feed(5);
        for (int b : new int[] {LOW, -1, 256, HIGH}) {
            due.argument("alter(0, " + b + ")", () -> x.alter(0, b));
        }
        due.same("alter(0, 255)", x.alter(0, 255), 5);
        due.same("alter(0, 0)", x.alter(0, 0), 255);
    }

    private static void alterForSeveralReasons(Due due) {
        due.refused("no byte came, no byte to become", INDEX, State::fresh, x -> x.alter(0, 256));
        due.refused("none behind the last one", INDEX, State::rich, x -> x.alter(x.told(4), -1));
    }

    private static void refusedAlters(Due due) {
        due.refused("alter(-1, 0)", INDEX, State::rich, x -> x.alter(-1, 0));
        due.refused("alter of one more", INDEX, State::rich, x -> x.alter(x.told(4), 0));
        due.refused("alter(0, 256)", ARGUMENT, State::rich, x -> x.alter(0, 256));
        due.refused("alter(0, -1)", ARGUMENT, State::rich, x -> x.alter(0, -1));
    }

    // ---- promise 18

    private static void dropping(Edges edges) {
        edges.edge(18, "No bytes have come.", ComingEdges::dropOfAll);
        edges.edge(18, "No bytes have come.", ComingEdges::dropOfNone);
        edges.edge(18, "No bytes have come.", ComingEdges::dropLeavesTheRest);
    }

    private static void dropOfAll(Due due) {
        LineFrames x = State.full();
        x.drop();
        due.same("told(4)", x.told(4), 0);
        due.index("alter(0, 0)", () -> x.alter(0, 0));
        due.same("read()", x.read(), -1);
        due.same("told(5)", x.told(5), 1);
        due.same("the first byte behind it", x.feed(5), 1);
        due.same("what it is", x.alter(0, 0), 5);
    }

    private static void dropOfNone(Due due) {
        LineFrames x = new LineFrames(0);
        x.drop();
        x.drop();
        due.same("told(4)", x.told(4), 0);
        due.same("feed(1)", x.feed(1), 1);
    }

    private static void dropLeavesTheRest(Due due) {
        LineFrames x = least();
        x.pass(0, HIGH);
        x.read();
        x.drop();
        int[] told = {0, 1, 0, LEAST, 0, 0, 0, 1};
        for (int what = 0; what < told.length; what++) {
            due.same("told(" + what + ")", x.told(what), told[what]);
        }
        due.same("found(3)", x.found(3), 1);
        due.same("byteAt(27)", x.byteAt(LEAST - 1), 0xD9);
        x.feed(0);
        x.read();
        x.drop();
        due.same("the fault of the latest reading", x.told(5), 1);
        due.same("put", x.put(0, 0, 0, 1), 0);
    }
}
