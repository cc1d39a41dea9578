import java.util.function.ToIntFunction;

/** A test of each call that is refused, for each of its errors: it changes nothing, not even what undo and restore bring back. */
final class RefusedCalls {
    private static final int[] NO_SHELF = {-1, 12, 32, Integer.MIN_VALUE, Integer.MAX_VALUE};
    private static final int[] NO_LOAF = {-1, 6, 20, 32, Integer.MIN_VALUE, Integer.MAX_VALUE};
    private static final int[] NO_NUMBER = {-1, 100, 101, Integer.MIN_VALUE, Integer.MAX_VALUE};

    private final Sentences s;

    RefusedCalls(Sentences s) {
        this.s = s;
    }

    void changeNothing() {
        s.says("A call that returns an error changes nothing.");
        ofChanges();
        ofTexts();
        ofWhatIs();
        ofWhatIf();
        ofUndoAndSlots();
    }

    private static LoafMemory made(String pad) {
        LoafMemory x = new LoafMemory();
        Texts.recipe(x, 0, "(a+b)");
        Texts.recipe(x, 1, "{#0?c:5}");
        x.save(1);
        x.put(0, 3);
        x.ask(1);
        x.poison(3, 1);
        x.put(1, 4);
        x.ask(1);
        x.set(0, 5);
        Texts.onPad(x, pad);
        return x;
    }

    private void refused(String call, int error, ToIntFunction<LoafMemory> made) {
        refused(call, error, "(a", made);
    }

    private void refused(String call, int error, String pad, ToIntFunction<LoafMemory> made) {
        LoafMemory x = made(pad);
        s.due(call, made.applyAsInt(x), error);
        s.same(call + " changed something", x, made(pad));
    }

    private void ofChanges() {
        for (int setting : new int[] {-1, 2, Integer.MIN_VALUE, Integer.MAX_VALUE}) {
            refused("set(" + setting + ", 1)", -2, x -> x.set(setting, 1));
        }
        for (int room : new int[] {0, -1, 17, Integer.MIN_VALUE, Integer.MAX_VALUE}) {
            refused("set(0, " + room + ")", -2, x -> x.set(0, room));
        }
        for (int keep : new int[] {-1, 2, Integer.MIN_VALUE, Integer.MAX_VALUE}) {
            refused("set(1, " + keep + ")", -2, x -> x.set(1, keep));
            refused("poison(0, " + keep + ")", -2, x -> x.poison(0, keep));
        }
        for (int shelf : NO_SHELF) {
            refused("put(" + shelf + ", 1)", -1, x -> x.put(shelf, 1));
            refused("poison(" + shelf + ", 1)", -1, x -> x.poison(shelf, 1));
        }
        for (int number : NO_NUMBER) {
            refused("put(0, " + number + ")", -2, x -> x.put(0, number));
        }
        for (int loaf : NO_LOAF) {
            refused("ask(" + loaf + ")", -1, x -> x.ask(loaf));
        }
        for (int memory : new int[] {-1, 4, 16, Integer.MIN_VALUE, Integer.MAX_VALUE}) {
            refused("forget(" + memory + ")", -1, x -> x.forget(memory));
        }
    }

    private void ofTexts() {
        String full = "a".repeat(60);
        for (long characters : new long[] {0, 32, 127, 255, 0x6100, 0x610061, 0x6120, -1, Long.MIN_VALUE, Long.MAX_VALUE}) {
            refused("type(" + characters + ")", -2, x -> x.type(characters));
            refused("type(" + characters + ") on a full pad", -2, full, x -> x.type(characters));
        }
        refused("type of one more", -4, full, x -> x.type('a'));
        refused("type of eight more", -4, "a".repeat(53), x -> x.type(Texts.packed("aaaaaaaa")));
        for (int loaf : NO_LOAF) {
            refused("recipe(" + loaf + ") of a right pad", -1, "a", x -> x.recipe(loaf));
        }
        refused("recipe(0) of a fault", -3, x -> x.recipe(0));
        refused("recipe(0) of an empty pad", -3, "", x -> x.recipe(0));
        refused("recipe(0) of #0", -5, "#0", x -> x.recipe(0));
        refused("recipe(1) of (#0+#4)", -5, "(#0+#4)", x -> x.recipe(1));
    }

    private void ofWhatIs() {
        for (int shelf : NO_SHELF) {
            refused("ofShelf(" + shelf + ", 0)", -1, x -> x.ofShelf(shelf, 0));
        }
        for (int loaf : NO_LOAF) {
            refused("ofLoaf(" + loaf + ", 0)", -1, x -> x.ofLoaf(loaf, 0));
        }
        for (int memory : new int[] {-1, 4, 16, Integer.MIN_VALUE, Integer.MAX_VALUE}) {
            refused("ofMemory(" + memory + ", 0)", -1, x -> x.ofMemory(memory, 0));
            refused("look(" + memory + ", 0, 0)", -1, x -> x.look(memory, 0, 0));
            refused("look(0, " + memory + ", 0)", -1, x -> x.look(0, memory, 0));
        }
        for (int what : new int[] {-1, 8, 20, Integer.MIN_VALUE, Integer.MAX_VALUE}) {
            refused("ofShelf(0, " + what + ")", -2, x -> x.ofShelf(0, what));
            refused("ofLoaf(0, " + what + ")", -2, x -> x.ofLoaf(0, what));
            refused("ofMemory(0, " + what + ")", -2, x -> x.ofMemory(0, what));
            refused("look(0, 0, " + what + ")", -2, x -> x.look(0, 0, what));
            refused("count(" + what + ")", -2, x -> x.count(what));
        }
    }

    private void ofWhatIf() {
        for (int loaf : NO_LOAF) {
            refused("fresh(" + loaf + ")", -1, x -> x.fresh(loaf));
            refused("fits(" + loaf + ")", -1, x -> x.fits(loaf));
            refused("looksAt(" + loaf + ")", -1, x -> x.looksAt(loaf));
            refused("stepsFor(" + loaf + ")", -1, x -> x.stepsFor(loaf));
            refused("numberFor(0, " + loaf + ", 1)", -1, x -> x.numberFor(0, loaf, 1));
        }
        for (int shelf : NO_SHELF) {
            refused("changes(" + shelf + ", 1)", -1, x -> x.changes(shelf, 1));
            refused("numberFor(" + shelf + ", 0, 1)", -1, x -> x.numberFor(shelf, 0, 1));
        }
        for (int number : NO_NUMBER) {
            refused("changes(0, " + number + ")", -2, x -> x.changes(0, number));
            if (number != 100) {
                refused("numberFor(0, 0, " + number + ")", -2, x -> x.numberFor(0, 0, number));
            }
        }
    }

    private void ofUndoAndSlots() {
        for (int slot : new int[] {-1, 2, 32, Integer.MIN_VALUE, Integer.MAX_VALUE}) {
            refused("save(" + slot + ")", -2, x -> x.save(slot));
            refused("restore(" + slot + ")", -2, x -> x.restore(slot));
        }
        refused("restore(0), nothing saved", -5, x -> x.restore(0));
        LoafMemory y = new LoafMemory();
        y.type('a');
        y.save(0);
        s.due("undo() of nothing", y.undo(), -5);
        LoafMemory z = new LoafMemory();
        z.type('a');
        z.save(0);
        s.same("undo() of nothing", y, z);
    }
}
