/** Promises 22 to 24: undo, save, restore. */
public final class UndoTest {
    private static final Due D = new Due();

    public static void main(String[] args) {
        undo();
        undoOfEachChange();
        whatIsNoChange();
        history();
        save();
        restore();
        slotsAreApart();
        D.end();
    }

    private static void undo() {
        LoafMemory x = new LoafMemory();
        D.due("nothing to undo", x.undo(), -5);
        x.put(0, 1);
        D.due("undo()", x.undo(), 0);
        D.due("as it was", x.ofShelf(0, 0), 0);
        D.due("nothing more to undo", x.undo(), -5);
        x.put(0, 0);
        D.due("a change that changes nothing is recorded", x.undo(), 0);
        x.put(0, 100);
        D.due("an error is not", x.undo(), -5);
    }

    private static void undoOfEachChange() {
        LoafMemory x = new LoafMemory();
        Texts.recipe(x, 0, "{a?b:c}");
        x.put(0, 1);
        x.ask(0);
        x.ask(0);
        D.due("uses", x.ofMemory(0, 4), 2);
        D.due("undo of an ask", x.undo(), 3);
        D.due("uses before", x.ofMemory(0, 4), 1);
        D.due("given again before", x.ofLoaf(0, 4), 0);
        D.due("steps saved before", x.count(2), 0);
        D.due("undo of a baking", x.undo(), 2);
        D.due("memories before", x.count(0), 0);
        D.due("bakings before", x.ofLoaf(0, 3), 0);
        D.due("steps made before", x.count(1), 0);
        D.due("undo of put", x.undo(), 1);
        D.due("undo of recipe", x.undo(), 0);
        D.due("no recipe before", x.count(7), 0);
        D.due("and no shelf is named", x.ofShelf(0, 2), 0);

        Texts.recipe(x, 0, "a");
        x.ask(0);
        x.put(0, 1);
        x.ask(0);
        x.set(0, 1);
        D.due("one is left", x.count(0), 1);
        x.undo();
        D.due("both are back", x.count(0), 2);
        D.due("the room is, too", x.count(5), 8);
        D.due("in their order", x.ofMemory(0, 1) * 10 + x.ofMemory(1, 1), 10);
        x.forget(0);
        x.undo();
        D.due("a forgotten one is back", x.ofMemory(0, 1), 1);
        D.due("with its look", x.look(0, 0, 1), 1);
        x.poison(0, 1);
        x.undo();
        D.due("clean before", x.ofShelf(0, 1), 0);
        Texts.recipe(x, 0, "b");
        D.due("a new recipe forgets", x.count(0), 0);
        x.undo();
        D.due("the memories of the old one are back", x.count(0), 2);
        D.due("and the old one", x.ofLoaf(0, 1), 1);
        D.due("one fits", x.fits(0), 0);
    }

    private static void whatIsNoChange() {
        LoafMemory x = new LoafMemory();
        x.type(Texts.packed("(a"));
        x.fault();
        x.wipe();
        x.fresh(0);
        x.fits(0);
        x.looksAt(0);
        x.changes(0, 1);
        x.numberFor(0, 0, 1);
        x.stepsFor(0);
        x.save(0);
        x.count(0);
        x.ofShelf(0, 0);
        D.due("no change", x.count(4), 0);
        x.put(0, 1);
        x.type(Texts.packed("(a"));
        x.undo();
        D.due("the pad is not undone", x.count(3), 2);
    }

    private static void history() {
        LoafMemory x = new LoafMemory();
        for (int number = 1; number <= 9; number++) {
            x.put(0, number);
            D.due("changes after " + number, x.count(4), Math.min(6, number));
        }
        for (int left = 5; left >= 0; left--) {
            D.due("undo() to " + left, x.undo(), left);
            D.due("number", x.ofShelf(0, 0), left + 3);
        }
        D.due("the oldest were dropped", x.undo(), -5);
        D.due("number at last", x.ofShelf(0, 0), 3);
        x.put(0, 50);
        x.put(0, 51);
        D.due("undo() of new ones", x.undo(), 1);
        D.due("number of a new one", x.ofShelf(0, 0), 50);
        x.put(0, 60);
        D.due("undo() after undo()", x.undo(), 1);
        D.due("number after it", x.ofShelf(0, 0), 50);
        D.due("undo() once more", x.undo(), 0);
        D.due("number as before", x.ofShelf(0, 0), 3);
    }

    private static void save() {
        LoafMemory x = new LoafMemory();
        D.due("save(2)", x.save(2), -2);
        D.due("save(-1)", x.save(-1), -2);
        D.due("save(0)", x.save(0), 0);
        Texts.recipe(x, 0, "a");
        x.ask(0);
        D.due("save(1)", x.save(1), 1);
        x.put(0, 1);
        x.ask(0);
        D.due("save(1) over it", x.save(1), 2);
        x.undo();
        x.undo();
        x.undo();
        D.due("undo leaves the slot", x.restore(1), 2);
        D.due("what was saved last", x.ofMemory(0, 1), 1);
        D.due("the other slot", x.restore(0), 0);
        D.due("without recipes", x.count(7), 0);
    }

    private static void restore() {
        LoafMemory x = new LoafMemory();
        D.due("restore(2)", x.restore(2), -2);
        D.due("restore(-1)", x.restore(-1), -2);
        D.due("restore(1), nothing saved", x.restore(1), -5);
        Texts.recipe(x, 0, "(a+1)");
        x.put(0, 4);
        x.poison(3, 1);
        x.set(0, 3);
        x.ask(0);
        D.due("save(1)", x.save(1), 1);
        D.due("restore(0), nothing saved", x.restore(0), -5);
        x.put(0, 5);
        x.ask(0);
        x.ask(0);
        x.poison(3, 0);
        x.set(0, 9);
        x.set(1, 0);
        Texts.recipe(x, 0, "b");
        x.type(Texts.packed("xyz"));
        D.due("restore(1)", x.restore(1), 1);
        D.due("number", x.ofShelf(0, 0), 4);
        D.due("poison", x.ofShelf(3, 1), 1);
        D.due("room", x.count(5), 3);
        D.due("keep", x.count(6), 1);
        D.due("recipe", x.ofLoaf(0, 1), 1);
        D.due("memory", x.ofMemory(0, 1), 5);
        D.due("its uses", x.ofMemory(0, 4), 1);
        D.due("bakings", x.ofLoaf(0, 3), 1);
        D.due("given again", x.ofLoaf(0, 4), 0);
        D.due("steps made", x.count(1), 3);
        D.due("steps saved", x.count(2), 0);
        D.due("the pad stays", x.count(3), 3);
        D.due("the history stays and has one more", x.count(4), 6);
        x.put(0, 77);
        x.ask(0);
        D.due("the slot keeps it", x.restore(1), 1);
        D.due("number again", x.ofShelf(0, 0), 4);
        D.due("undo of restore", x.undo(), 5);
        D.due("number before", x.ofShelf(0, 0), 77);
        D.due("memories before", x.count(0), 2);
        x.undo();
        x.undo();
        D.due("undo of the first restore", x.undo(), 2);
        D.due("recipe before", x.ofLoaf(0, 1), 2);
        D.due("keep before", x.count(6), 0);
    }

    private static void slotsAreApart() {
        LoafMemory x = new LoafMemory();
        x.put(0, 1);
        x.save(0);
        x.put(0, 2);
        x.save(1);
        x.put(0, 3);
        x.restore(0);
        D.due("slot 0", x.ofShelf(0, 0), 1);
        x.restore(1);
        D.due("slot 1", x.ofShelf(0, 0), 2);
        LoafMemory y = new LoafMemory();
        D.due("another object has its own slots", y.restore(0), -5);
        D.due("and its own shelves", y.ofShelf(0, 0), 0);
    }
}
