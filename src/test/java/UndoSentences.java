/** Promises 22 to 24: a test for each sentence. */
final class UndoSentences {
    private final Sentences s;

    UndoSentences(Sentences s) {
        this.s = s;
    }

    void run() {
        undo();
        history();
        drops();
        undoAnswers();
        save();
        restore();
        restoreAnswers();
    }

    private static LoafMemory some() {
        LoafMemory x = new LoafMemory();
        Texts.recipe(x, 0, "a");
        Texts.recipe(x, 1, "(#0+b)");
        x.ask(1);
        x.put(0, 4);
        x.ask(1);
        return x;
    }

    private void undo() {
        s.section("Promise 22: undo");
        s.says("Undoes the latest change: everything except the pad, the slots and the history is as it was before it.");
        LoafMemory x = some();
        String before = Told.but(x, 4, 0);
        x.set(LoafMemory.ROOM, 1);
        x.undo();
        s.holds("undo of set", Told.but(x, 4, 0).equals(before));
        Texts.recipe(x, 1, "9");
        x.undo();
        s.due("a recipe and its memories are back", x.ofLoaf(1, 1) * 10 + x.ofLoaf(1, 5), 22);
        s.due("the pad is not", x.count(3), 0);
        x.put(11, 5);
        x.type('a');
        x.save(0);
        x.undo();
        s.due("what was typed since then stays", x.count(3), 1);
        s.due("the number does not", x.ofShelf(11, 0), 0);
        x.restore(0);
        s.due("what was saved since then stays", x.ofShelf(11, 0), 5);
        x.undo();
        s.due("restore is undone", x.ofShelf(11, 0), 0);
        x.ask(0);
        x.ask(0);
        x.undo();
        s.due("only the latest one", x.ofMemory(0, 4), 3);
        s.due("steps saved", x.count(2), 2);
        x.undo();
        s.due("then the one before", x.ofMemory(0, 0), 1);
        s.due("steps saved then", x.count(2), 1);
    }

    private void history() {
        s.says("A history of at most 6 states is kept: each method that is a change, and returns no error, records the state before it (also if "
            + "nothing is different then);");
        LoafMemory x = new LoafMemory();
        s.due("put(0, 0), nothing is different", x.put(0, 0) + x.count(4), 1);
        s.due("set(0, 8), nothing is different", x.set(0, 8) + x.count(4), 10);
        s.due("poison(0, 0), nothing is different", x.poison(0, 0) + x.count(4), 3);
        s.due("ask(0), nothing is different", x.ask(0) + x.count(4), 104);
        x.save(1);
        s.due("restore(1), nothing is different", x.restore(1) + x.count(4), 5);
        s.due("put(0, 100), an error", x.put(0, 100) + x.count(4), 3);
        s.due("ask(6), an error", x.ask(6) + x.count(4), 4);
        s.due("forget(0), an error", x.forget(0) + x.count(4), 4);
        s.due("recipe(0), an error", x.recipe(0) + x.count(4), 2);
        s.due("restore(0), an error", x.restore(0) + x.count(4), 0);
        s.due("six", x.put(0, 0) + x.count(4), 6);
        s.due("not seven", x.put(0, 0) + x.count(4), 6);
        for (int left = 5; left >= 0; left--) {
            s.due("undo() to " + left, x.undo(), left);
        }
        s.due("undo() of none", x.undo(), -5);
        x.type('(');
        x.fault();
        x.wipe();
        x.save(0);
        x.fresh(0);
        x.fits(0);
        x.looksAt(0);
        x.changes(0, 5);
        x.numberFor(0, 0, 100);
        x.stepsFor(0);
        x.look(0, 0, 0);
        s.due("these are no changes", x.count(4), 0);
    }

    private void drops() {
        s.says("when one more is recorded, the oldest one is dropped.");
        LoafMemory x = new LoafMemory();
        for (int number = 1; number <= 20; number++) {
            x.put(0, number);
            s.due("recorded after " + number, x.count(4), Math.min(6, number));
        }
        for (int left = 5; left >= 0; left--) {
            s.due("undo() to " + left, x.undo(), left);
            s.due("number then", x.ofShelf(0, 0), 14 + left);
        }
        s.due("the older ones were dropped", x.undo(), -5);
        s.due("number at last", x.ofShelf(0, 0), 14);
        for (int number = 1; number <= 7; number++) {
            x.put(0, number);
        }
        x.undo();
        x.undo();
        x.put(0, 50);
        x.put(0, 51);
        x.put(0, 52);
        s.due("six again", x.count(4), 6);
        int[] numbers = {51, 50, 5, 4, 3, 2};
        for (int number : numbers) {
            x.undo();
            s.due("number before", x.ofShelf(0, 0), number);
        }
        s.due("no more", x.undo(), -5);
    }

    private void undoAnswers() {
        s.says("Returns how many changes can be undone then;");
        LoafMemory x = new LoafMemory();
        x.put(0, 1);
        s.due("of one", x.undo(), 0);
        x.put(0, 1);
        x.put(0, 2);
        s.due("of two", x.undo(), 1);
        s.due("count(4)", x.count(4), 1);
        x.put(0, 3);
        s.due("of two again", x.undo(), 1);
        s.due("of one again", x.undo(), 0);
        s.says("NOT_POSSIBLE if there is none.");
        s.due("undo()", x.undo(), -5);
        s.due("undo() again", x.undo(), -5);
        s.due("of a new object", new LoafMemory().undo(), -5);
        x.put(0, 100);
        s.due("after an error", x.undo(), -5);
        x.save(0);
        s.due("after save", x.undo(), -5);
        x.type('a');
        s.due("after type", x.undo(), -5);
    }

    private void save() {
        s.section("Promise 23: save");
        s.says("Saves everything except the pad, the history and the slots in a slot, and overwrites what was saved there.");
        LoafMemory x = some();
        String before = Told.but(x, 4, 0);
        x.save(0);
        x.set(0, 2);
        x.set(1, 0);
        x.poison(5, 1);
        x.put(6, 9);
        x.ask(1);
        Texts.recipe(x, 2, "b");
        x.save(1);
        x.restore(0);
        s.holds("all of it is saved", Told.but(x, 4, 0).equals(before));
        x.type('a');
        x.restore(1);
        s.due("the pad is not", x.count(3), 1);
        s.due("the history is not", x.count(4), 6);
        s.due("another slot is another one", x.ofShelf(6, 0), 9);
        x.put(6, 10);
        x.save(0);
        x.put(6, 11);
        x.restore(0);
        s.due("what was there is overwritten", x.ofShelf(6, 0), 10);
        x.restore(1);
        s.due("the other slot is not", x.ofShelf(6, 0), 9);
        s.due("save is no change", x.save(1) + x.count(4), 2 + 6);
        s.says("0 or 1");
        s.due("save(0)", x.save(0), 2);
        s.due("save(1)", x.save(1), 2);
        s.due("save(-1)", x.save(-1), -2);
        s.due("save(2)", x.save(2), -2);
        s.says("Returns how many memories there are;");
        LoafMemory y = new LoafMemory();
        s.due("none", y.save(0), 0);
        y.set(0, 16);
        Texts.recipe(y, 0, "a");
        for (int number = 0; number < 17; number++) {
            y.put(0, number);
            y.ask(0);
            s.due("after " + (number + 1), y.save(0), Math.min(16, number + 1));
        }
        s.says("BAD_VALUE if there is no such slot.");
        for (int slot : new int[] {-1, 2, 3, 32, Integer.MIN_VALUE, Integer.MAX_VALUE}) {
            s.due("save(" + slot + ")", y.save(slot), -2);
        }
    }

    private void restore() {
        s.section("Promise 24: restore");
        s.says("Restores what was saved last in a slot, which keeps it. This is a change.");
        LoafMemory x = some();
        x.save(1);
        x.put(0, 7);
        x.save(1);
        x.put(0, 8);
        x.ask(1);
        x.restore(1);
        s.due("what was saved last", x.ofShelf(0, 0), 7);
        s.due("its memories", x.count(0), 4);
        x.put(0, 9);
        x.forget(0);
        x.set(0, 1);
        x.restore(1);
        s.due("the slot keeps it", x.ofShelf(0, 0), 7);
        s.due("and its memories", x.count(0), 4);
        s.due("and its ROOM", x.count(5), 8);
        x.undo();
        s.due("undo() of restore", x.ofShelf(0, 0), 9);
        s.due("and of its ROOM", x.count(5), 1);
        s.isChange("restore(1)", () -> saved(1), y -> y.restore(1));
        s.isChange("restore(0)", () -> saved(0), y -> y.restore(0));
        s.says("0 or 1");
        s.due("restore(-1)", x.restore(-1), -2);
        s.due("restore(2)", x.restore(2), -2);
        s.due("restore(1)", x.restore(1), 4);
        x.save(0);
        s.due("restore(0)", x.restore(0), 4);
    }

    private static LoafMemory saved(int slot) {
        LoafMemory x = new LoafMemory();
        x.put(1, 1);
        x.save(slot);
        Texts.recipe(x, 0, "a");
        x.ask(0);
        x.type('a');
        return x;
    }

    private void restoreAnswers() {
        s.says("Returns how many memories there are then;");
        LoafMemory x = some();
        x.save(0);
        x.set(0, 1);
        x.save(1);
        s.due("four", x.restore(0), 4);
        s.due("one", x.restore(1), 1);
        s.due("count(0)", x.count(0), 1);
        x.forget(0);
        x.save(1);
        s.due("four again", x.restore(0), 4);
        s.due("none", x.restore(1), 0);
        s.says("BAD_VALUE if there is no such slot;");
        for (int slot : new int[] {-1, 2, 3, 32, Integer.MIN_VALUE, Integer.MAX_VALUE}) {
            s.due("restore(" + slot + ")", x.restore(slot), -2);
            s.due("restore(" + slot + ") of a new object", new LoafMemory().restore(slot), -2);
        }
        s.says("NOT_POSSIBLE if nothing was saved in it.");
        LoafMemory y = new LoafMemory();
        s.due("restore(0)", y.restore(0), -5);
        s.due("restore(1)", y.restore(1), -5);
        y.put(0, 1);
        y.save(1);
        s.due("restore(0), the other one was saved", y.restore(0), -5);
        s.due("restore(1)", y.restore(1), 0);
        y.undo();
        y.undo();
        s.due("restore(1), undo does not empty a slot", y.restore(1), 0);
        s.due("restore(0) still", y.restore(0), -5);
    }
}
