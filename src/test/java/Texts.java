import java.nio.charset.StandardCharsets;

/** Feeds a text to an object, padded with signs that no text may have. */
final class Texts {
    private Texts() {
    }

    static void feed(PackedCases x, String text) {
        for (int[] five : fives(text)) {
            x.feed(five[0], five[1], five[2], five[3], five[4]);
        }
    }

    static int house(PackedCases x, String text) {
        feed(x, text);
        return x.house(text.length());
    }

    static PackedCases with(String text) {
        PackedCases x = new PackedCases();
        int fault = house(x, text);
        if (fault != 0) {
            throw new IllegalStateException("fault " + fault + " at " + x.fault() + ": " + text);
        }
        return x;
    }

    /** Reads a text with an object of its own: the FAULT, its place, and whether it was counted as refused. */
    static void reads(Check check, String text, int fault, int place) {
        PackedCases x = new PackedCases();
        check.due("house of " + text, house(x, text), fault);
        check.due("place in " + text, x.fault(), place);
        check.due("refused behind " + text, x.count(12), fault == 0 ? 0 : 1);
    }

    static void reads(Check check, String text) {
        reads(check, text, 0, -1);
    }

    static int[][] fives(String text) {
        byte[] bytes = text.getBytes(StandardCharsets.ISO_8859_1);
        int[][] fives = new int[(bytes.length + 19) / 20][5];
        for (int i = 0; i < fives.length * 20; i++) {
            int b = i < bytes.length ? bytes[i] & 255 : '!';
            fives[i / 20][i % 20 / 4] |= b << 24 - i % 4 * 8;
        }
        return fives;
    }
}
