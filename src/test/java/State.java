/** Objects in states that tests begin with, and all that can be asked of an object, as a text. */
final class State {
    private static final int SHOWN = 25;

    private State() {
    }

    /** The asking wears the object out: it alters bytes and writes. */
    static String of(LineFrames x) {
        StringBuilder text = new StringBuilder();
        for (int what = 0; what <= 7; what++) {
            text.append(" told ").append(x.told(what));
        }
        text.append("; written");
        int written = x.told(3);
        for (int i = 0; i < written; i = next(i, written)) {
            text.append(' ').append(x.byteAt(i));
        }
        text.append("; read ").append(read(x)).append("; came");
        int came = x.told(4);
        for (int i = 0; i < came; i = next(i, came)) {
            text.append(' ').append(x.alter(i, 0));
        }
        text.append("; picture");
        if (x.told(1) != 0) {
            x.write(0);
            text.append(Due.written(x));
        }
        return text.toString();
    }

    /** Of a long row the first and the last ones are looked at. */
    private static int next(int i, int count) {
        return i + 1 == SHOWN && count > 2 * SHOWN ? count - SHOWN : i + 1;
    }

    private static String read(LineFrames x) {
        StringBuilder text = new StringBuilder();
        try {
            for (int what = 0; what <= 9; what++) {
                text.append(' ').append(x.found(what));
            }
        } catch (IllegalStateException e) {
            return "nothing";
        }
        int samples = x.found(0) * x.found(1) * x.found(3);
        for (int i = 0; i < samples && i < SHOWN; i++) {
            int c = i / (x.found(0) * x.found(1));
            int y = i / x.found(0) % x.found(1);
            text.append(' ').append(x.at(c, i % x.found(0), y, false));
            text.append('/').append(x.at(c, i % x.found(0), y, true));
        }
        for (int n = 0; n < x.found(9); n++) {
            text.append(" note ").append(x.noteAt(n, -1));
        }
        return text.toString();
    }

    static LineFrames fresh() {
        return new LineFrames(1);
    }

    /** A picture, a written stream, bytes that came and what was read, each another one. */
    static LineFrames rich() {
        LineFrames x = new LineFrames(1);
        x.picture(2, 1, 2, 1);
        x.put(0, 1, 0, 3);
        x.table(0, 3, 700);
        x.note(16);
        x.write(1);
        x.pass(0, 6000);
        x.read();
        x.drop();
        x.picture(3, 2, 4, 2);
        x.put(0, 0, 0, 15);
        x.put(1, 2, 1, 9);
        x.preset(0, 7);
        x.preset(1, 8);
        x.preset(2, 1);
        x.table(1, 15, 65535);
        x.note(3);
        x.byteOf(0, 11);
        x.note(0);
        x.write(0);
        x.pass(3, 20);
        x.feed(9);
        x.put(1, 1, 1, 5);
        return x;
    }

    /** As rich, with 6 notes, the last of 30 bytes, and 6000 bytes that came. */
    static LineFrames full() {
        LineFrames x = rich();
        x.picture(12, 12, 8, 4);
        for (int c = 0; c < 4; c++) {
            x.table(c, 255, 300 + c);
        }
        x.write(0);
        while (x.told(4) < 6000) {
            x.pass(0, Math.min(x.told(3), 6000 - x.told(4)));
        }
        x.picture(1, 1, 2, 1);
        for (int n = 0; n < 6; n++) {
            x.note(n + 11);
        }
        for (int i = 0; i < 30; i++) {
            x.byteOf(5, 255 - i);
        }
        return x;
    }
}
