/**
 * Pictures told line by line as a stream of bytes, after the frame of ITU-T T.87, and read again.
 *
 * All rows are made once, with the object, and used again by every call: a call makes no objects.
 */
public final class LineFrames {
    public static final int NONE = -1;

    private static final int LAST_TURN = 2;
    private static final int MAX_SIDE = 12;
    private static final int PLANE = MAX_SIDE * MAX_SIDE;
    private static final int MIN_BITS = 2;
    private static final int MAX_BITS = 8;
    private static final int MAX_COMPONENTS = 4;
    private static final int LEVELS = 1 << MAX_BITS;
    private static final int MAX_NEAR = 3;
    private static final int MAX_BYTE = 255;
    private static final int MAX_WIDE = 65535;
    private static final int MAX_BYTES = 6000;

    private static final int MAX_NOTES = 6;
    private static final int MAX_NOTE_BYTES = 30;
    private static final int KIND_FE = 16;

    private static final int RESET = 0;
    private static final int START = 1;
    private static final int RESTART = 2;
    private static final int PRESETS = 3;
    private static final int FIRST_RESET = 64;
    private static final int FIRST_START = 4;

    private static final int MARK_RESTART = 0xD0;
    private static final int MARK_BEGIN = 0xD8;
    private static final int MARK_END = 0xD9;
    private static final int MARK_SCAN = 0xDA;
    private static final int MARK_RESTARTS = 0xDD;
    private static final int MARK_NOTE = 0xE0;
    private static final int MARK_LAST_NOTE = 0xEF;
    private static final int MARK_FRAME = 0xF7;
    private static final int MARK_PRESETS = 0xF8;
    private static final int MARK_NOTE_FE = 0xFE;
    private static final int FRAME_SHAPE = 17;
    private static final int OF_PRESETS = 1;
    private static final int OF_TABLE = 2;
    private static final int TABLE_WIDTH = 2;

    private static final int MAX_SHIFT = 12;
    private static final int MAX_ZEROS = 20;
    private static final int PLAIN_BITS = 9;

    private static final int FAULT_SHORT = 1;
    private static final int FAULT_MARK = 2;
    private static final int FAULT_LENGTH = 3;
    private static final int FAULT_VALUE = 4;
    private static final int FAULT_ORDER = 5;
    private static final int FAULT_COMPONENT = 6;
    private static final int FAULT_DATA = 7;
    private static final int FAULT_RESTART = 8;
    private static final int FAULT_BEHIND = 9;

    private final int turn;
    private final Picture made;
    private final Bytes written;
    private final Bytes came;
    private final StreamWriter writer;
    private final StreamReader reader;

    public LineFrames(int turn) {
        this.turn = Math.max(0, Math.min(LAST_TURN, turn));
        made = new Picture();
        written = new Bytes();
        came = new Bytes();
        writer = new StreamWriter(made, written);
        reader = new StreamReader(came);
    }

    public int picture(int width, int height, int bits, int components) throws IllegalArgumentException {
        if (!Picture.mayMeasure(width, height, bits, components)) {
            throw new IllegalArgumentException("no such picture");
        }
        made.clear();
        made.measure(width, height, bits, components);
        return width * height * components;
    }

    public int put(int component, int x, int y, int v)
            throws IllegalStateException, IndexOutOfBoundsException, IllegalArgumentException {
        wantPicture();
        if (!made.hasSample(component, x, y)) {
            throw new IndexOutOfBoundsException("no such sample");
        }
        if (!made.mayBeSample(v)) {
            throw new IllegalArgumentException("no value of a sample");
        }
        int place = placeOf(component, x, y);
        int before = made.samples.get(place);
        made.samples.set(place, v);
        return before;
    }

    public int preset(int what, int v) throws IllegalStateException, IllegalArgumentException {
        wantPicture();
        if (!Picture.mayPreset(what, v)) {
            throw new IllegalArgumentException("no such preset");
        }
        int before = made.presets.get(what);
        made.presets.set(what, v);
        return before;
    }

    public int table(int component, int from, int to)
            throws IllegalStateException, IndexOutOfBoundsException, IllegalArgumentException {
        wantPicture();
        if (!made.hasComponent(component)) {
            throw new IndexOutOfBoundsException("no such component");
        }
        if (!made.mayBeSample(from) || to < 0 || to > MAX_WIDE) {
            throw new IllegalArgumentException("no sample, or no number that it may stand for");
        }
        int before = made.hasTable(component) ? made.numberOf(component, from) : NONE;
        if (before == NONE) {
            made.openTable(component);
        }
        made.setNumber(component, from, to);
        return before;
    }

    public int note(int kind) throws IllegalStateException, IllegalArgumentException, UnsupportedOperationException {
        wantPicture();
        if (kind < 0 || kind > KIND_FE) {
            throw new IllegalArgumentException("no kind of a note");
        }
        if (made.notes.full()) {
            throw new UnsupportedOperationException("no room for a note");
        }
        return made.notes.open(kind);
    }

    public int byteOf(int note, int b)
            throws IllegalStateException, IndexOutOfBoundsException, IllegalArgumentException,
            UnsupportedOperationException {
        wantPicture();
        if (!made.notes.has(note)) {
            throw new IndexOutOfBoundsException("no such note");
        }
        wantByte(b);
        if (made.notes.sizeOf(note) >= MAX_NOTE_BYTES) {
            throw new UnsupportedOperationException("no room in the note");
        }
        return made.notes.append(note, b);
    }

    public int write(int near) throws IllegalStateException, IllegalArgumentException {
        wantPicture();
        if (near < 0 || near > MAX_NEAR) {
            throw new IllegalArgumentException("no such NEAR");
        }
        writer.stream(turn, near);
        return written.size();
    }

    public int byteAt(int i) throws IndexOutOfBoundsException {
        if (!written.has(i)) {
            throw new IndexOutOfBoundsException("no such byte was written");
        }
        return written.get(i);
    }

    public int feed(int b) throws IllegalArgumentException, UnsupportedOperationException {
        wantByte(b);
        if (came.room() < 1) {
            throw new UnsupportedOperationException("no room for a byte");
        }
        came.add(b);
        return came.size();
    }

    public int pass(int from, int n)
            throws IndexOutOfBoundsException, IllegalArgumentException, UnsupportedOperationException {
        if (!written.has(from)) {
            throw new IndexOutOfBoundsException("no such byte was written");
        }
        if (n < 0) {
            throw new IllegalArgumentException("fewer than no bytes");
        }
        int count = Math.min(n, written.size() - from);
        if (count > came.room()) {
            throw new UnsupportedOperationException("no room for so many bytes");
        }
        for (int i = 0; i < count; i++) {
            came.add(written.get(from + i));
        }
        return count;
    }

    public int alter(int i, int b) throws IndexOutOfBoundsException, IllegalArgumentException {
        if (!came.has(i)) {
            throw new IndexOutOfBoundsException("no such byte came");
        }
        wantByte(b);
        int before = came.get(i);
        came.set(i, b);
        return before;
    }

    public int read() {
        reader.begin();
        // Each step takes at least the two bytes of a mark, or ends the reading.
        for (int step = 0; step <= MAX_BYTES && !reader.ended(); step++) {
            reader.step();
        }
        return reader.whole ? reader.got.components : -1 - reader.fault.place();
    }

    public int at(int component, int x, int y, boolean meant)
            throws IllegalStateException, IndexOutOfBoundsException {
        wantReading();
        Picture got = reader.got;
        if (!got.hasSample(component, x, y)) {
            throw new IndexOutOfBoundsException("no such sample");
        }
        int v = got.samples.get(placeOf(component, x, y));
        return meant && got.hasTable(component) ? got.numberOf(component, v) : v;
    }

    public int found(int what) throws IllegalStateException {
        wantReading();
        Picture got = reader.got;
        switch (what) {
            case 0: return got.width;
            case 1: return got.height;
            case 2: return got.bits;
            case 3: return got.components;
            case 4: return reader.near;
            case 5: return reader.turn;
            case 6: return got.presets.get(RESET);
            case 7: return got.presets.get(START);
            case 8: return got.presets.get(RESTART);
            case 9: return got.notes.count();
            default: return NONE;
        }
    }

    public int noteAt(int note, int i) throws IllegalStateException, IndexOutOfBoundsException {
        wantReading();
        Notes notes = reader.got.notes;
        if (!notes.has(note) || i < -1 || i >= notes.sizeOf(note)) {
            throw new IndexOutOfBoundsException("no such note, or no such byte of it");
        }
        return i == -1 ? notes.kindOf(note) : notes.byteIn(note, i);
    }

    public int told(int what) {
        switch (what) {
            case 0: return turn;
            case 1: return made.components;
            case 2: return made.notes.count();
            case 3: return written.size();
            case 4: return came.size();
            case 5: return reader.fault.number();
            case 6: return reader.restarts;
            case 7: return reader.scans;
            default: return NONE;
        }
    }

    public void drop() {
        came.clear();
    }

    private void wantPicture() {
        if (made.components == 0) {
            throw new IllegalStateException("there is no picture");
        }
    }

    private void wantReading() {
        if (!reader.whole) {
            throw new IllegalStateException("nothing was read");
        }
    }

    private static void wantByte(int b) {
        if (b < 0 || b > MAX_BYTE) {
            throw new IllegalArgumentException("no byte");
        }
    }

    private static int placeOf(int component, int x, int y) {
        return component * PLANE + y * MAX_SIDE + x;
    }

    /** Numbers in places; a place that is not there holds 0 and takes nothing. */
    private static final class Row {
        private final int[] cells;

        Row(int size) {
            cells = new int[Math.max(0, size)];
        }

        int get(int i) {
            return i >= 0 && i < cells.length ? cells[i] : 0;
        }

        void set(int i, int v) {
            if (i >= 0 && i < cells.length) {
                cells[i] = v;
            }
        }

        void fill(int v) {
            for (int i = 0; i < cells.length; i++) {
                cells[i] = v;
            }
        }
    }

    /** A stream, which grows up to the bytes that there is room for. */
    private static final class Bytes {
        private final int[] cells = new int[MAX_BYTES];
        private int size = 0;

        int size() {
            return size;
        }

        int room() {
            return MAX_BYTES - size;
        }

        boolean has(int i) {
            return i >= 0 && i < size;
        }

        int get(int i) {
            return i >= 0 && i < size && i < cells.length ? cells[i] : 0;
        }

        int wide(int i) {
            return get(i) * 256 + get(i + 1);
        }

        void set(int i, int b) {
            if (i >= 0 && i < size && i < cells.length) {
                cells[i] = b;
            }
        }

        void add(int b) {
            if (size >= 0 && size < cells.length) {
                cells[size] = b;
                size++;
            }
        }

        void addWide(int v) {
            add(v >> 8);
            add(v & MAX_BYTE);
        }

        void clear() {
            size = 0;
        }
    }

    /** Notes in order, each with a kind and its bytes. */
    private static final class Notes {
        private final Row kinds = new Row(MAX_NOTES);
        private final Row sizes = new Row(MAX_NOTES);
        private final Row cells = new Row(MAX_NOTES * MAX_NOTE_BYTES);
        private int count = 0;

        int count() {
            return count;
        }

        boolean full() {
            return count >= MAX_NOTES;
        }

        boolean has(int note) {
            return note >= 0 && note < count;
        }

        int kindOf(int note) {
            return kinds.get(note);
        }

        int sizeOf(int note) {
            return sizes.get(note);
        }

        int byteIn(int note, int i) {
            return cells.get(note * MAX_NOTE_BYTES + i);
        }

        /** Wants room for one note more. */
        int open(int kind) {
            int note = count;
            kinds.set(note, kind);
            sizes.set(note, 0);
            count++;
            return note;
        }

        /** Wants room for one byte more of the note. */
        int append(int note, int b) {
            int size = sizes.get(note);
            cells.set(note * MAX_NOTE_BYTES + size, b);
            sizes.set(note, size + 1);
            return size + 1;
        }

        void clear() {
            count = 0;
        }
    }

    /** A picture with all that its stream tells of it; without components there is none. */
    private static final class Picture {
        private final Row samples = new Row(MAX_COMPONENTS * PLANE);
        private final Row presets = new Row(PRESETS);
        private final Row tabled = new Row(MAX_COMPONENTS);
        private final Row numbers = new Row(MAX_COMPONENTS * LEVELS);
        private final Notes notes = new Notes();
        private int width = 0;
        private int height = 0;
        private int bits = 0;
        private int components = 0;

        static boolean mayMeasure(int width, int height, int bits, int components) {
            return width >= 1 && width <= MAX_SIDE && height >= 1 && height <= MAX_SIDE
                    && bits >= MIN_BITS && bits <= MAX_BITS && components >= 1 && components <= MAX_COMPONENTS;
        }

        static boolean mayPreset(int what, int v) {
            switch (what) {
                case RESET: return v >= 3 && v <= MAX_BYTE;
                case START: return v >= 1 && v <= MAX_BYTE;
                case RESTART: return v >= 0 && v <= MAX_SIDE;
                default: return false;
            }
        }

        void clear() {
            measure(0, 0, 0, 0);
            samples.fill(0);
            tabled.fill(0);
            notes.clear();
            presets.set(RESET, FIRST_RESET);
            presets.set(START, FIRST_START);
            presets.set(RESTART, 0);
        }

        void measure(int newWidth, int newHeight, int newBits, int newComponents) {
            width = newWidth;
            height = newHeight;
            bits = newBits;
            components = newComponents;
        }

        int top() {
            return (1 << bits) - 1;
        }

        boolean mayBeSample(int v) {
            return v >= 0 && v <= top();
        }

        boolean hasComponent(int c) {
            return c >= 0 && c < components;
        }

        boolean hasSample(int c, int x, int y) {
            return hasComponent(c) && x >= 0 && x < width && y >= 0 && y < height;
        }

        boolean hasTable(int c) {
            return tabled.get(c) != 0;
        }

        void openTable(int c) {
            tabled.set(c, 1);
            for (int v = 0; v < LEVELS; v++) {
                numbers.set(c * LEVELS + v, 0);
            }
        }

        int numberOf(int c, int v) {
            return numbers.get(c * LEVELS + v);
        }

        void setNumber(int c, int v, int to) {
            numbers.set(c * LEVELS + v, to);
        }
    }

    /** What is foretold of a sample, and how its error is told; the same for writing and for reading. */
    private static final class Model {
        private final Row samples;
        private final Row sums = new Row(MAX_COMPONENTS);
        private final Row counts = new Row(MAX_COMPONENTS);
        private int top = 0;
        private int near = 0;
        private int step = 1;
        private int range = 1;
        private int reset = FIRST_RESET;
        private int start = FIRST_START;

        /** Keeps what the samples are told as in a row that another one may share. */
        Model(Row samples) {
            this.samples = samples;
        }

        void begin(Picture picture, int newNear) {
            top = picture.top();
            near = newNear;
            step = 2 * near + 1;
            range = steps(top + 2 * near) + 1;
            reset = picture.presets.get(RESET);
            start = picture.presets.get(START);
            renew();
        }

        void renew() {
            sums.fill(start);
            counts.fill(1);
        }

        int foretell(int c, int x, int y, boolean firstRow) {
            int place = placeOf(c, x, y);
            int above = firstRow ? 0 : samples.get(place - MAX_SIDE);
            if (x == 0) {
                // Left and left above count as above there, and of three equals that one is foretold.
                return above;
            }
            int left = samples.get(place - 1);
            int corner = firstRow ? 0 : samples.get(place - MAX_SIDE - 1);
            if (corner >= Math.max(left, above)) {
                return Math.min(left, above);
            }
            if (corner <= Math.min(left, above)) {
                return Math.max(left, above);
            }
            return left + above - corner;
        }

        int shift(int c) {
            int sum = sums.get(c);
            int count = counts.get(c);
            int k = 0;
            while (k < MAX_SHIFT && (count << k) < sum) {
                k++;
            }
            return k;
        }

        /** Takes a sample as it will be told, and answers the m that tells it. */
        int tell(int c, int place, int foretold, int v) {
            int more = v - foretold;
            int error = more > 0 ? steps(more + near) : -steps(near - more);
            samples.set(place, toSample(foretold + step * error));
            if (error < 0) {
                error += range;
            }
            if (error >= (range + 1) / 2) {
                error -= range;
            }
            learn(c, error);
            return error < 0 ? -2 * error - 1 : 2 * error;
        }

        /** Takes the sample that an m tells. */
        void untell(int c, int place, int foretold, int m) {
            int error = (m & 1) == 0 ? m / 2 : -((m + 1) / 2);
            int v = foretold + step * error;
            if (v < -near) {
                v += step * range;
            } else if (v > top + near) {
                v -= step * range;
            }
            samples.set(place, toSample(v));
            learn(c, error);
        }

        private int steps(int amount) {
            return step > 0 ? amount / step : 0;
        }

        private int toSample(int v) {
            return Math.max(0, Math.min(top, v));
        }

        private void learn(int c, int error) {
            int sum = sums.get(c);
            int count = counts.get(c);
            if (count == reset) {
                sum = sum / 2;
                count = count / 2;
            }
            sums.set(c, sum + Math.abs(error));
            counts.set(c, count + 1);
        }
    }

    /** Bits on their way into bytes. */
    private static final class BitSink {
        private final Bytes out;
        private int current = 0;
        private int free = 8;

        BitSink(Bytes out) {
            this.out = out;
        }

        void code(int m, int k) {
            int zeros = m >> k;
            if (zeros < MAX_ZEROS) {
                bits(0, zeros);
                bits(1, 1);
                bits(m, k);
            } else {
                bits(0, MAX_ZEROS);
                bits(1, 1);
                bits(m, PLAIN_BITS);
            }
        }

        /** Fills the last byte; one begun behind a 255 is told even if it tells nothing. */
        void close() {
            if (free < 8) {
                out.add(current << free);
            }
            current = 0;
            free = 8;
        }

        private void bits(int v, int count) {
            for (int i = count - 1; i >= 0; i--) {
                current = current * 2 + ((v >> i) & 1);
                free--;
                if (free == 0) {
                    out.add(current);
                    // A byte behind a 255 has its highest bit taken: so it never looks like a mark.
                    free = current == MAX_BYTE ? 7 : 8;
                    current = 0;
                }
            }
        }
    }

    /** The first fault that a reading met, and its place. */
    private static final class Fault {
        private int number = 0;
        private int place = 0;

        void clear() {
            number = 0;
            place = 0;
        }

        void meet(int newNumber, int newPlace) {
            if (number == 0) {
                number = newNumber;
                place = newPlace;
            }
        }

        boolean met() {
            return number != 0;
        }

        int number() {
            return number;
        }

        int place() {
            return place;
        }
    }

    /** Bits on their way out of bytes; behind a fault it answers zeros. */
    private static final class BitSource {
        private final Bytes in;
        private final Fault fault;
        private int next = 0;
        private int current = 0;
        private int left = 0;

        BitSource(Bytes in, Fault fault) {
            this.in = in;
            this.fault = fault;
        }

        void begin(int place) {
            next = place;
            current = 0;
            left = 0;
        }

        int next() {
            return next;
        }

        /** The m of a sample. */
        int code(int k) {
            int zeros = 0;
            while (zeros <= MAX_ZEROS && bits(1) == 0) {
                zeros++;
            }
            if (zeros > MAX_ZEROS) {
                fault.meet(FAULT_DATA, next - 1);
                return 0;
            }
            return zeros == MAX_ZEROS ? bits(PLAIN_BITS) : (zeros << k) + bits(k);
        }

        /** Passes what fills the last byte, and the byte that must follow a 255. */
        void close() {
            int unread = current & ((1 << left) - 1);
            if (unread != 0) {
                fault.meet(FAULT_DATA, next - 1);
            } else if (current == MAX_BYTE && !in.has(next)) {
                fault.meet(FAULT_SHORT, in.size());
            } else if (current == MAX_BYTE && in.get(next) != 0) {
                fault.meet(FAULT_DATA, next);
            } else if (current == MAX_BYTE) {
                next++;
            }
        }

        private int bits(int count) {
            int v = 0;
            for (int i = 0; i < count && !fault.met(); i++) {
                if (left == 0) {
                    fetch();
                }
                if (left > 0) {
                    left--;
                    v = v * 2 + ((current >> left) & 1);
                }
            }
            return v;
        }

        private void fetch() {
            if (!in.has(next)) {
                fault.meet(FAULT_SHORT, in.size());
                return;
            }
            int b = in.get(next);
            if (current == MAX_BYTE && b > MAX_BYTE / 2) {
                fault.meet(FAULT_DATA, next);
                return;
            }
            left = current == MAX_BYTE ? 7 : 8;
            current = b;
            next++;
        }
    }

    /** Writes a picture as a stream. */
    private static final class StreamWriter {
        private final Picture picture;
        private final Bytes out;
        private final Model model = new Model(new Row(MAX_COMPONENTS * PLANE));
        private final BitSink bits;

        StreamWriter(Picture picture, Bytes out) {
            this.picture = picture;
            this.out = out;
            bits = new BitSink(out);
        }

        void stream(int turn, int near) {
            out.clear();
            mark(MARK_BEGIN);
            addNotes();
            addFrame();
            addPresets();
            addTables();
            addRestarts();
            if (turn == 0) {
                for (int c = 0; c < picture.components; c++) {
                    scan(c, 1, near, 0);
                }
            } else {
                scan(0, picture.components, near, picture.components == 1 ? 0 : turn);
            }
            mark(MARK_END);
        }

        private void mark(int code) {
            out.add(MAX_BYTE);
            out.add(code);
        }

        private void segment(int code, int length) {
            mark(code);
            out.addWide(length);
        }

        private void addNotes() {
            Notes notes = picture.notes;
            for (int n = 0; n < notes.count(); n++) {
                int kind = notes.kindOf(n);
                int size = notes.sizeOf(n);
                segment(kind == KIND_FE ? MARK_NOTE_FE : MARK_NOTE + kind, 2 + size);
                for (int i = 0; i < size; i++) {
                    out.add(notes.byteIn(n, i));
                }
            }
        }

        private void addFrame() {
            segment(MARK_FRAME, 8 + 3 * picture.components);
            out.add(picture.bits);
            out.addWide(picture.height);
            out.addWide(picture.width);
            out.add(picture.components);
            for (int c = 0; c < picture.components; c++) {
                out.add(c + 1);
                out.add(FRAME_SHAPE);
                out.add(0);
            }
        }

        private void addPresets() {
            int reset = picture.presets.get(RESET);
            int start = picture.presets.get(START);
            if (reset != FIRST_RESET || start != FIRST_START) {
                segment(MARK_PRESETS, 5);
                out.add(OF_PRESETS);
                out.add(reset);
                out.add(start);
            }
        }

        private void addTables() {
            int levels = picture.top() + 1;
            for (int c = 0; c < picture.components; c++) {
                if (picture.hasTable(c)) {
                    segment(MARK_PRESETS, 5 + 2 * levels);
                    out.add(OF_TABLE);
                    out.add(c + 1);
                    out.add(TABLE_WIDTH);
                    for (int v = 0; v < levels; v++) {
                        out.addWide(picture.numberOf(c, v));
                    }
                }
            }
        }

        private void addRestarts() {
            int restart = picture.presets.get(RESTART);
            if (restart != 0) {
                segment(MARK_RESTARTS, 4);
                out.addWide(restart);
            }
        }

        private void scan(int first, int count, int near, int turn) {
            addScanHead(first, count, near, turn);
            model.begin(picture, near);
            int restart = picture.presets.get(RESTART);
            int restarts = 0;
            int rows = 0;
            for (int y = 0; y < picture.height; y++) {
                if (restart != 0 && rows == restart) {
                    bits.close();
                    mark(MARK_RESTART + restarts % 8);
                    model.renew();
                    restarts++;
                    rows = 0;
                }
                addRow(first, count, turn, y, rows == 0);
                rows++;
            }
            bits.close();
        }

        private void addScanHead(int first, int count, int near, int turn) {
            segment(MARK_SCAN, 6 + 2 * count);
            out.add(count);
            for (int c = first; c < first + count; c++) {
                out.add(c + 1);
                out.add(picture.hasTable(c) ? c + 1 : 0);
            }
            out.add(near);
            out.add(turn);
            out.add(0);
        }

        private void addRow(int first, int count, int turn, int y, boolean firstRow) {
            boolean bySample = turn == 2;
            int outer = bySample ? picture.width : count;
            int inner = bySample ? count : picture.width;
            for (int i = 0; i < outer; i++) {
                for (int j = 0; j < inner; j++) {
                    addSample(first + (bySample ? j : i), bySample ? i : j, y, firstRow);
                }
            }
        }

        private void addSample(int c, int x, int y, boolean firstRow) {
            int place = placeOf(c, x, y);
            int foretold = model.foretell(c, x, y, firstRow);
            int k = model.shift(c);
            int m = model.tell(c, place, foretold, picture.samples.get(place));
            bits.code(m, k);
        }
    }

    /** Reads a stream mark by mark, up to its end or to the first fault. */
    private static final class StreamReader {
        private final Bytes in;
        private final Picture got = new Picture();
        private final Fault fault = new Fault();
        private final BitSource bits;
        private final Model model = new Model(got.samples);
        private final Row scanned = new Row(MAX_COMPONENTS);
        private int next = 0;
        private boolean whole = false;
        private int first = 0;
        private int count = 0;
        private int near = 0;
        private int turn = 0;
        private int restarts = 0;
        private int scans = 0;

        StreamReader(Bytes in) {
            this.in = in;
            bits = new BitSource(in, fault);
        }

        void begin() {
            got.clear();
            fault.clear();
            scanned.fill(0);
            next = 0;
            whole = false;
            restarts = 0;
            scans = 0;
        }

        boolean ended() {
            return whole || fault.met();
        }

        void step() {
            int p = next;
            int code = markAt(p);
            next = p + 2;
            if (fault.met() || code == MARK_BEGIN) {
                return;
            }
            if (code == MARK_END) {
                end();
                return;
            }
            int length = lengthAt(p);
            if (fault.met()) {
                return;
            }
            next = p + 2 + length;
            int wrong = take(code, p, length);
            if (wrong != 0) {
                fault.meet(wrong, p);
            } else if (code == MARK_SCAN) {
                data();
            }
        }

        private int markAt(int p) {
            if (in.size() - p < 2) {
                fault.meet(FAULT_SHORT, in.size());
                return NONE;
            }
            int code = in.get(p + 1);
            if (in.get(p) != MAX_BYTE || !isKnown(code) || (code == MARK_BEGIN) != (p == 0)) {
                fault.meet(FAULT_MARK, p);
            } else if (isTooSoonOrLate(code)) {
                fault.meet(FAULT_ORDER, p);
            }
            return code;
        }

        private static boolean isNote(int code) {
            return code == MARK_NOTE_FE || (code >= MARK_NOTE && code <= MARK_LAST_NOTE);
        }

        private static boolean isKnown(int code) {
            return isNote(code) || code == MARK_BEGIN || code == MARK_FRAME || code == MARK_PRESETS
                    || code == MARK_RESTARTS || code == MARK_SCAN || code == MARK_END;
        }

        private boolean isTooSoonOrLate(int code) {
            boolean framed = got.components != 0;
            switch (code) {
                case MARK_FRAME: return framed;
                case MARK_SCAN: return !framed;
                case MARK_PRESETS:
                case MARK_RESTARTS: return !framed || scans != 0;
                case MARK_END: return !framed || !allScanned();
                default: return false;
            }
        }

        private boolean allScanned() {
            for (int c = 0; c < got.components; c++) {
                if (scanned.get(c) == 0) {
                    return false;
                }
            }
            return true;
        }

        private void end() {
            if (in.has(next)) {
                fault.meet(FAULT_BEHIND, next);
            } else {
                whole = true;
            }
        }

        private int lengthAt(int p) {
            int length = in.wide(p + 2);
            if (in.size() - p < 4) {
                fault.meet(FAULT_SHORT, in.size());
            } else if (length < 2) {
                fault.meet(FAULT_LENGTH, p);
            } else if (in.size() - p - 2 < length) {
                fault.meet(FAULT_SHORT, in.size());
            }
            return length;
        }

        /** Takes what a segment tells: its fault, or 0. */
        private int take(int code, int p, int length) {
            switch (code) {
                case MARK_FRAME: return takeFrame(p, length);
                case MARK_PRESETS: return takePresetsOrTable(p, length);
                case MARK_RESTARTS: return takeRestarts(p, length);
                case MARK_SCAN: return takeScan(p, length);
                default: return takeNote(code, p, length);
            }
        }

        private int takeNote(int code, int p, int length) {
            if (got.notes.full() || length - 2 > MAX_NOTE_BYTES) {
                return FAULT_VALUE;
            }
            int n = got.notes.open(code == MARK_NOTE_FE ? KIND_FE : code - MARK_NOTE);
            for (int i = 0; i < length - 2; i++) {
                got.notes.append(n, in.get(p + 4 + i));
            }
            return 0;
        }

        private int takeFrame(int p, int length) {
            int components = in.get(p + 9);
            if (length < 8 || length != 8 + 3 * components) {
                return FAULT_LENGTH;
            }
            int newBits = in.get(p + 4);
            int height = in.wide(p + 5);
            int width = in.wide(p + 7);
            if (!Picture.mayMeasure(width, height, newBits, components)) {
                return FAULT_VALUE;
            }
            for (int c = 0; c < components; c++) {
                int part = p + 10 + 3 * c;
                if (in.get(part) != c + 1 || in.get(part + 1) != FRAME_SHAPE || in.get(part + 2) != 0) {
                    return FAULT_VALUE;
                }
            }
            got.measure(width, height, newBits, components);
            return 0;
        }

        private int takePresetsOrTable(int p, int length) {
            if (length < 3) {
                return FAULT_LENGTH;
            }
            switch (in.get(p + 4)) {
                case OF_PRESETS: return takePresets(p, length);
                case OF_TABLE: return takeTable(p, length);
                default: return FAULT_VALUE;
            }
        }

        private int takePresets(int p, int length) {
            if (length != 5) {
                return FAULT_LENGTH;
            }
            int reset = in.get(p + 5);
            int start = in.get(p + 6);
            if (!Picture.mayPreset(RESET, reset) || !Picture.mayPreset(START, start)) {
                return FAULT_VALUE;
            }
            got.presets.set(RESET, reset);
            got.presets.set(START, start);
            return 0;
        }

        private int takeTable(int p, int length) {
            int levels = got.top() + 1;
            if (length != 5 + 2 * levels) {
                return FAULT_LENGTH;
            }
            int c = in.get(p + 5) - 1;
            if (!got.hasComponent(c)) {
                return FAULT_COMPONENT;
            }
            if (got.hasTable(c)) {
                return FAULT_ORDER;
            }
            if (in.get(p + 6) != TABLE_WIDTH) {
                return FAULT_VALUE;
            }
            got.openTable(c);
            for (int v = 0; v < levels; v++) {
                got.setNumber(c, v, in.wide(p + 7 + 2 * v));
            }
            return 0;
        }

        private int takeRestarts(int p, int length) {
            if (length != 4) {
                return FAULT_LENGTH;
            }
            int restart = in.wide(p + 4);
            if (!Picture.mayPreset(RESTART, restart)) {
                return FAULT_VALUE;
            }
            got.presets.set(RESTART, restart);
            return 0;
        }

        private int takeScan(int p, int length) {
            int parts = in.get(p + 4);
            if (length < 3 || length != 6 + 2 * parts) {
                return FAULT_LENGTH;
            }
            if (parts != 1 && parts != got.components) {
                return FAULT_VALUE;
            }
            for (int i = 0; i < parts; i++) {
                int part = p + 5 + 2 * i;
                int wrong = faultOfPart(i, parts, in.get(part), in.get(part + 1));
                if (wrong != 0) {
                    return wrong;
                }
            }
            int tail = p + 5 + 2 * parts;
            int newTurn = in.get(tail + 1);
            boolean mayTurn = parts == 1 ? newTurn == 0 : newTurn == 1 || newTurn == 2;
            if (in.get(tail) > MAX_NEAR || !mayTurn || in.get(tail + 2) != 0) {
                return FAULT_VALUE;
            }
            first = in.get(p + 5) - 1;
            count = parts;
            near = in.get(tail);
            turn = newTurn;
            return 0;
        }

        private int faultOfPart(int i, int parts, int number, int table) {
            int c = number - 1;
            if (!got.hasComponent(c)) {
                return FAULT_COMPONENT;
            }
            if (parts > 1 && c != i) {
                return FAULT_VALUE;
            }
            if (scanned.get(c) != 0) {
                return FAULT_ORDER;
            }
            boolean own = table == number && got.hasTable(c);
            return table == 0 || own ? 0 : FAULT_VALUE;
        }

        private void data() {
            model.begin(got, near);
            bits.begin(next);
            int restart = got.presets.get(RESTART);
            int met = 0;
            int rows = 0;
            for (int y = 0; y < got.height && !fault.met(); y++) {
                if (restart != 0 && rows == restart) {
                    passRestart(met);
                    met++;
                    rows = 0;
                }
                takeRow(y, rows == 0);
                rows++;
            }
            if (!fault.met()) {
                bits.close();
            }
            if (!fault.met()) {
                endScan();
            }
        }

        private void passRestart(int met) {
            bits.close();
            int p = bits.next();
            if (in.size() - p < 2) {
                fault.meet(FAULT_SHORT, in.size());
            } else if (in.get(p) != MAX_BYTE || in.get(p + 1) != MARK_RESTART + met % 8) {
                fault.meet(FAULT_RESTART, p);
            }
            if (!fault.met()) {
                restarts++;
                model.renew();
                bits.begin(p + 2);
            }
        }

        private void takeRow(int y, boolean firstRow) {
            boolean bySample = turn == 2;
            int outer = bySample ? got.width : count;
            int inner = bySample ? count : got.width;
            for (int i = 0; i < outer; i++) {
                for (int j = 0; j < inner && !fault.met(); j++) {
                    int c = first + (bySample ? j : i);
                    int x = bySample ? i : j;
                    int foretold = model.foretell(c, x, y, firstRow);
                    int m = bits.code(model.shift(c));
                    model.untell(c, placeOf(c, x, y), foretold, m);
                }
            }
        }

        private void endScan() {
            for (int c = first; c < first + count; c++) {
                scanned.set(c, 1);
            }
            scans++;
            next = bits.next();
        }
    }
}
