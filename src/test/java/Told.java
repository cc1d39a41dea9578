/** All that an object can tell, as a text. */
final class Told {
    private Told() {
    }

    /** What there is now, by some 90 calls and some 10 for each memory. */
    static String all(LoafMemory x) {
        return but(x, -1, 0);
    }

    /** What there is now, with another number in place of that of a count. */
    static String but(LoafMemory x, int count, int number) {
        StringBuilder text = new StringBuilder();
        counts(text, x, count, number);
        text.append(" fault ").append(x.fault());
        for (int shelf = 0; shelf < 12; shelf++) {
            text.append("\nshelf ").append(shelf);
            for (int what = 0; what < 3; what++) {
                text.append(' ').append(x.ofShelf(shelf, what));
            }
        }
        for (int loaf = 0; loaf < 6; loaf++) {
            text.append("\nloaf ").append(loaf);
            for (int what = 0; what < 6; what++) {
                text.append(' ').append(x.ofLoaf(loaf, what));
            }
        }
        int memories = x.count(0);
        for (int memory = 0; memory < memories; memory++) {
            memory(text, x, memory);
        }
        return text.toString();
    }

    /** What there is now, what each undo() brings back, and what the slots hold; the object is used up by that. */
    static String withItsPast(LoafMemory x) {
        StringBuilder text = new StringBuilder(all(x));
        for (int left = x.undo(); left >= 0; left = x.undo()) {
            text.append("\nundo ").append(left);
            brief(text, x);
        }
        for (int slot = 0; slot < 2; slot++) {
            text.append("\nrestore ").append(x.restore(slot));
            brief(text, x);
        }
        return text.toString();
    }

    private static void brief(StringBuilder text, LoafMemory x) {
        counts(text, x, -1, 0);
        for (int shelf = 0; shelf < 12; shelf++) {
            text.append(' ').append(x.ofShelf(shelf, 0));
        }
        int memories = x.count(0);
        for (int memory = 0; memory < memories; memory++) {
            text.append(" m").append(x.ofMemory(memory, 1)).append('u').append(x.ofMemory(memory, 4));
        }
    }

    private static void counts(StringBuilder text, LoafMemory x, int count, int number) {
        text.append("\ncounts");
        for (int what = 0; what < 8; what++) {
            text.append(' ').append(what == count ? number : x.count(what));
        }
    }

    private static void memory(StringBuilder text, LoafMemory x, int memory) {
        text.append("\nmemory ").append(memory);
        for (int what = 0; what < 5; what++) {
            text.append(' ').append(x.ofMemory(memory, what));
        }
        int looks = x.ofMemory(memory, 2);
        for (int look = 0; look < looks; look++) {
            text.append(", ").append(x.look(memory, look, 0)).append('=').append(x.look(memory, look, 1));
        }
    }
}
