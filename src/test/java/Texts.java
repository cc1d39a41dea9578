/** Texts as the numbers that type() takes. */
final class Texts {
    private Texts() {
    }

    static long packed(String text) {
        long number = 0;
        for (int i = 0; i < text.length(); i++) {
            number = number << 8 | text.charAt(i) & 255;
        }
        return number;
    }

    /** Empties the pad and types the whole text on it. */
    static void onPad(LoafMemory x, String text) {
        x.wipe();
        for (int i = 0; i < text.length(); i += 8) {
            x.type(packed(text.substring(i, Math.min(i + 8, text.length()))));
        }
    }

    static int fault(LoafMemory x, String text) {
        onPad(x, text);
        return x.fault();
    }

    static int recipe(LoafMemory x, int loaf, String text) {
        onPad(x, text);
        return x.recipe(loaf);
    }
}
