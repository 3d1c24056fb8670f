import java.util.ArrayList;
import java.util.List;

/** The document once more, in another way: plain lists, texts of bits, and an exception for a fault. */
final class Reference {
    int width;
    int height;
    int bits;
    int components;
    int reset = 64;
    int start = 4;
    int restart;
    int near;
    int turn;
    int[][][] samples;
    int[][] tables;
    final List<int[]> notes = new ArrayList<>();
    int fault;
    int place;
    int restarts;
    int scans;

    void picture(int w, int h, int b, int n) {
        width = w;
        height = h;
        bits = b;
        components = n;
        samples = new int[n][h][w];
        tables = new int[n][];
    }

    private int top() {
        return (1 << bits) - 1;
    }

    // ---- writing: segments, so that a test may mix them

    List<int[]> segments(int newTurn, int newNear) {
        List<int[]> parts = new ArrayList<>();
        parts.add(new int[] {255, 0xD8});
        for (int[] note : notes) {
            int[] body = new int[note.length - 1];
            System.arraycopy(note, 1, body, 0, body.length);
            parts.add(segment(note[0] == 16 ? 0xFE : 0xE0 + note[0], body));
        }
        List<Integer> frame = new ArrayList<>(List.of(bits, 0, height, 0, width, components));
        for (int c = 1; c <= components; c++) {
            frame.addAll(List.of(c, 17, 0));
        }
        parts.add(segment(0xF7, ints(frame)));
        if (reset != 64 || start != 4) {
            parts.add(segment(0xF8, 1, reset, start));
        }
        for (int c = 0; c < components; c++) {
            if (tables[c] != null) {
                List<Integer> body = new ArrayList<>(List.of(2, c + 1, 2));
                for (int number : tables[c]) {
                    body.addAll(List.of(number / 256, number % 256));
                }
                parts.add(segment(0xF8, ints(body)));
            }
        }
        if (restart != 0) {
            parts.add(segment(0xDD, 0, restart));
        }
        if (newTurn == 0 || components == 1) {
            for (int c = 0; c < components; c++) {
                parts.add(scan(List.of(c), 0, newNear));
            }
        } else {
            List<Integer> all = new ArrayList<>();
            for (int c = 0; c < components; c++) {
                all.add(c);
            }
            parts.add(scan(all, newTurn, newNear));
        }
        parts.add(new int[] {255, 0xD9});
        return parts;
    }

    static int[] join(List<int[]> parts) {
        List<Integer> all = new ArrayList<>();
        for (int[] part : parts) {
            for (int b : part) {
                all.add(b);
            }
        }
        return ints(all);
    }

    private static int[] ints(List<Integer> list) {
        return list.stream().mapToInt(i -> i).toArray();
    }

    private static int[] segment(int code, int... body) {
        int[] all = new int[body.length + 4];
        all[0] = 255;
        all[1] = code;
        all[2] = (body.length + 2) / 256;
        all[3] = (body.length + 2) % 256;
        System.arraycopy(body, 0, all, 4, body.length);
        return all;
    }

    private int[] scan(List<Integer> cs, int newTurn, int newNear) {
        List<Integer> head = new ArrayList<>();
        head.add(cs.size());
        for (int c : cs) {
            head.add(c + 1);
            head.add(tables[c] == null ? 0 : c + 1);
        }
        head.addAll(List.of(newNear, newTurn, 0));
        List<Integer> out = new ArrayList<>();
        for (int b : segment(0xDA, ints(head))) {
            out.add(b);
        }
        int[][][] told = new int[components][height][width];
        long[] a = new long[components];
        long[] n = new long[components];
        StringBuilder text = new StringBuilder();
        int count = 0;
        int first = 0;
        for (int y = 0; y < height; y++) {
            if (y == 0 || restart != 0 && y % restart == 0) {
                if (y > 0) {
                    pack(text, out);
                    out.add(255);
                    out.add(0xD0 + count++ % 8);
                }
                text = new StringBuilder();
                java.util.Arrays.fill(a, start);
                java.util.Arrays.fill(n, 1);
                first = y;
            }
            for (int[] where : order(cs, newTurn)) {
                text.append(sample(where[0], where[1], y, first, newNear, told, a, n));
            }
        }
        pack(text, out);
        return ints(out);
    }

    private List<int[]> order(List<Integer> cs, int newTurn) {
        List<int[]> list = new ArrayList<>();
        if (newTurn == 2) {
            for (int x = 0; x < width; x++) {
                for (int c : cs) {
                    list.add(new int[] {c, x});
                }
            }
        } else {
            for (int c : cs) {
                for (int x = 0; x < width; x++) {
                    list.add(new int[] {c, x});
                }
            }
        }
        return list;
    }

    private static int foretold(int[][] told, int x, int y, int first) {
        int b = y == first ? 0 : told[y - 1][x];
        int a = x == 0 ? b : told[y][x - 1];
        int c = x == 0 ? b : y == first ? 0 : told[y - 1][x - 1];
        boolean notBelow = !(c < a) && !(c < b);
        boolean notAbove = !(c > a) && !(c > b);
        return notBelow ? Math.min(a, b) : notAbove ? Math.max(a, b) : a + b - c;
    }

    private static int shift(long a, long n) {
        int k = 0;
        for (long p = n; p < a && k < 12; p *= 2) {
            k++;
        }
        return k;
    }

    private String sample(int c, int x, int y, int first, int newNear, int[][][] told, long[] a, long[] n) {
        int step = 2 * newNear + 1;
        int range = (top() + 2 * newNear) / step + 1;
        int p = foretold(told[c], x, y, first);
        int v = samples[c][y][x];
        int error = v > p ? (v - p + newNear) / step : -((p - v + newNear) / step);
        told[c][y][x] = Math.min(top(), Math.max(0, p + step * error));
        error = error < 0 ? error + range : error;
        error = error >= (range + 1) / 2 ? error - range : error;
        int m = error < 0 ? -2 * error - 1 : 2 * error;
        int k = shift(a[c], n[c]);
        if (n[c] == reset) {
            a[c] /= 2;
            n[c] /= 2;
        }
        a[c] += Math.abs(error);
        n[c]++;
        int zeros = m / (1 << k);
        return zeros < 20 ? "0".repeat(zeros) + "1" + binary(m % (1 << k), k) : "0".repeat(20) + "1" + binary(m, 9);
    }

    private static String binary(int v, int digits) {
        StringBuilder text = new StringBuilder();
        for (int i = 0; i < digits; i++) {
            text.insert(0, v % 2);
            v /= 2;
        }
        return text.toString();
    }

    private static void pack(StringBuilder text, List<Integer> out) {
        int last = 0;
        int i = 0;
        while (i < text.length()) {
            StringBuilder b = new StringBuilder(last == 255 ? "0" : "");
            while (b.length() < 8) {
                b.append(i < text.length() ? text.charAt(i) : '0');
                i++;
            }
            last = Integer.parseInt(b.toString(), 2);
            out.add(last);
        }
        if (last == 255) {
            out.add(0);
        }
    }

    // ---- reading

    private static final class Broken extends Exception {
        private static final long serialVersionUID = 1;
        final int fault;
        final int place;

        Broken(int fault, int place) {
            super(null, null, false, false);
            this.fault = fault;
            this.place = place;
        }
    }

    private int[] in;
    private int p;
    private int bitPlace;
    private int bitsLeft;
    private boolean[] scanned;

    /** What read() answers. */
    int read(int[] bytes) {
        in = bytes;
        p = 0;
        try {
            all();
            return components;
        } catch (Broken e) {
            fault = e.fault;
            place = e.place;
            return -1 - place;
        }
    }

    private void all() throws Broken {
        boolean framed = false;
        while (true) {
            need(p, 2);
            int at = p;
            int code = in[p + 1];
            boolean note = code == 0xFE || code / 16 == 0xE;
            boolean known = note || List.of(0xD8, 0xF7, 0xF8, 0xDD, 0xDA, 0xD9).contains(code);
            check(in[p] == 255 && known, 2, at);
            check(at == 0 ? code == 0xD8 : code != 0xD8, 2, at);
            if (code == 0xD8) {
                p = 2;
                continue;
            }
            if (!note) {
                check(framed == (code != 0xF7), 5, at);
                check(code != 0xF8 && code != 0xDD || scans == 0, 5, at);
            }
            if (code == 0xD9) {
                for (boolean one : scanned) {
                    check(one, 5, at);
                }
                check(in.length == at + 2, 9, at + 2);
                return;
            }
            need(at, 4);
            int size = in[at + 2] * 256 + in[at + 3];
            check(size >= 2, 3, at);
            need(at + 2, size);
            int[] body = java.util.Arrays.copyOfRange(in, at + 4, at + 2 + size);
            p = at + 2 + size;
            if (note) {
                note(code, body, at);
            } else if (code == 0xF7) {
                frame(body, at);
                framed = true;
            } else if (code == 0xF8) {
                presets(body, at);
            } else if (code == 0xDD) {
                check(body.length == 2, 3, at);
                check(body[0] == 0 && body[1] <= 12, 4, at);
                restart = body[1];
            } else {
                scanOf(body, at);
            }
        }
    }

    private void need(int from, int count) throws Broken {
        check(from + count <= in.length, 1, in.length);
    }

    private static void check(boolean right, int fault, int place) throws Broken {
        if (!right) {
            throw new Broken(fault, place);
        }
    }

    private void note(int code, int[] body, int at) throws Broken {
        check(notes.size() < 6 && body.length <= 30, 4, at);
        int[] note = new int[body.length + 1];
        note[0] = code == 0xFE ? 16 : code - 0xE0;
        System.arraycopy(body, 0, note, 1, body.length);
        notes.add(note);
    }

    private void frame(int[] body, int at) throws Broken {
        check(body.length >= 6 && body.length == 6 + 3 * body[5], 3, at);
        int h = body[1] * 256 + body[2];
        int w = body[3] * 256 + body[4];
        check(body[0] >= 2 && body[0] <= 8 && h >= 1 && h <= 12 && w >= 1 && w <= 12, 4, at);
        check(body[5] >= 1 && body[5] <= 4, 4, at);
        for (int c = 0; c < body[5]; c++) {
            check(body[6 + 3 * c] == c + 1 && body[7 + 3 * c] == 17 && body[8 + 3 * c] == 0, 4, at);
        }
        picture(w, h, body[0], body[5]);
        scanned = new boolean[components];
    }

    private void presets(int[] body, int at) throws Broken {
        check(body.length >= 1, 3, at);
        check(body[0] == 1 || body[0] == 2, 4, at);
        if (body[0] == 1) {
            check(body.length == 3, 3, at);
            check(body[1] >= 3 && body[2] >= 1, 4, at);
            reset = body[1];
            start = body[2];
            return;
        }
        check(body.length == 3 + 2 * (top() + 1), 3, at);
        check(body[1] >= 1 && body[1] <= components, 6, at);
        check(tables[body[1] - 1] == null, 5, at);
        check(body[2] == 2, 4, at);
        int[] numbers = new int[top() + 1];
        for (int v = 0; v <= top(); v++) {
            numbers[v] = body[3 + 2 * v] * 256 + body[4 + 2 * v];
        }
        tables[body[1] - 1] = numbers;
    }

    private void scanOf(int[] body, int at) throws Broken {
        check(body.length >= 1 && body.length == 4 + 2 * body[0], 3, at);
        int n = body[0];
        check(n == 1 || n == components, 4, at);
        List<Integer> cs = new ArrayList<>();
        for (int i = 0; i < n; i++) {
            int number = body[1 + 2 * i];
            int table = body[2 + 2 * i];
            check(number >= 1 && number <= components, 6, at);
            check(n == 1 || number == i + 1, 4, at);
            check(!scanned[number - 1], 5, at);
            check(table == 0 || table == number && tables[number - 1] != null, 4, at);
            cs.add(number - 1);
        }
        near = body[1 + 2 * n];
        turn = body[2 + 2 * n];
        check(near <= 3 && (n == 1 ? turn == 0 : turn == 1 || turn == 2) && body[3 + 2 * n] == 0, 4, at);
        data(cs);
        for (int c : cs) {
            scanned[c] = true;
        }
        scans++;
    }

    private void data(List<Integer> cs) throws Broken {
        long[] a = new long[components];
        long[] n = new long[components];
        int first = 0;
        int count = 0;
        for (int y = 0; y < height; y++) {
            if (y == 0 || restart != 0 && y % restart == 0) {
                if (y > 0) {
                    fill();
                    need(p, 2);
                    check(in[p] == 255 && in[p + 1] == 0xD0 + count % 8, 8, p);
                    count++;
                    restarts++;
                    p += 2;
                }
                bitPlace = -1;
                bitsLeft = 0;
                java.util.Arrays.fill(a, start);
                java.util.Arrays.fill(n, 1);
                first = y;
            }
            for (int[] where : order(cs, turn)) {
                unsample(where[0], where[1], y, first, a, n);
            }
        }
        fill();
    }

    private void unsample(int c, int x, int y, int first, long[] a, long[] n) throws Broken {
        int k = shift(a[c], n[c]);
        int zeros = 0;
        while (bit() == 0) {
            zeros++;
            check(zeros < 21, 7, bitPlace);
        }
        int m = zeros == 20 ? 0 : zeros;
        for (int i = 0; i < (zeros == 20 ? 9 : k); i++) {
            m = 2 * m + bit();
        }
        int error = m % 2 == 0 ? m / 2 : -(m + 1) / 2;
        int step = 2 * near + 1;
        int range = (top() + 2 * near) / step + 1;
        int v = foretold(samples[c], x, y, first) + step * error;
        v = v < -near ? v + step * range : v > top() + near ? v - step * range : v;
        samples[c][y][x] = Math.min(top(), Math.max(0, v));
        if (n[c] == reset) {
            a[c] /= 2;
            n[c] /= 2;
        }
        a[c] += Math.abs(error);
        n[c]++;
    }

    private int bit() throws Broken {
        if (bitsLeft == 0) {
            need(p, 1);
            boolean behind = bitPlace >= 0 && in[bitPlace] == 255;
            check(!behind || in[p] < 128, 7, p);
            bitPlace = p++;
            bitsLeft = behind ? 7 : 8;
        }
        bitsLeft--;
        return in[bitPlace] >> bitsLeft & 1;
    }

    private void fill() throws Broken {
        int last = bitPlace;
        while (bitsLeft > 0) {
            check(bit() == 0, 7, last);
        }
        if (in[last] == 255) {
            need(p, 1);
            check(in[p] == 0, 7, p);
            p++;
        }
    }
}
