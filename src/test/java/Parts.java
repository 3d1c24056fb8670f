/** Parts of streams, in base 16, put together by hand. */
final class Parts {
    static final String BEGIN = "FFD8";
    static final String END = "FFD9";

    private Parts() {
    }

    static String frame(int width, int height, int bits, int components) {
        StringBuilder text = new StringBuilder(
                String.format("FFF7%04X%02X%04X%04X%02X", 8 + 3 * components, bits, height, width, components));
        for (int c = 1; c <= components; c++) {
            text.append(String.format("%02X1100", c));
        }
        return text.toString();
    }

    static String presets(int reset, int start) {
        return String.format("FFF8000501%02X%02X", reset, start);
    }

    static String table(int number, int... numbers) {
        StringBuilder text = new StringBuilder(
                String.format("FFF8%04X02%02X02", 5 + 2 * numbers.length, number));
        for (int one : numbers) {
            text.append(String.format("%04X", one));
        }
        return text.toString();
    }

    static String restart(int rows) {
        return String.format("FFDD0004%04X", rows);
    }

    static String note(int code, int... bytes) {
        StringBuilder text = new StringBuilder(String.format("FF%02X%04X", code, 2 + bytes.length));
        for (int b : bytes) {
            text.append(String.format("%02X", b));
        }
        return text.toString();
    }

    /** The head of a scan of the components 1, 2, .. or of one alone, without tables. */
    static String scan(int near, int turn, int... numbers) {
        StringBuilder text = new StringBuilder(
                String.format("FFDA%04X%02X", 6 + 2 * numbers.length, numbers.length));
        for (int number : numbers) {
            text.append(String.format("%02X00", number));
        }
        return text.append(String.format("%02X%02X00", near, turn)).toString();
    }

    /** Bits, filled up to bytes with 0; none of the bytes but the last one may be 255. */
    static String bits(String bits) {
        StringBuilder digits = new StringBuilder(bits.replace(" ", ""));
        while (digits.length() % 8 != 0) {
            digits.append('0');
        }
        StringBuilder text = new StringBuilder();
        for (int i = 0; i < digits.length(); i += 8) {
            text.append(String.format("%02X", Integer.parseInt(digits.substring(i, i + 8), 2)));
        }
        return text.toString();
    }

    static int size(String hex) {
        return Due.bytes(hex).length;
    }
}
