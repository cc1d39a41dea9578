/** Promises 1 to 6: a test for each sentence. */
final class HappeningSentences {
    private static final int[] NO_SHELF = {-1, 12, 31, 32, Integer.MIN_VALUE, Integer.MAX_VALUE};
    private static final int[] NO_LOAF = {-1, 6, 20, 32, Integer.MIN_VALUE, Integer.MAX_VALUE};
    private static final int[] NO_FLAG = {-1, 2, 100, Integer.MIN_VALUE, Integer.MAX_VALUE};

    private final Sentences s;

    HappeningSentences(Sentences s) {
        this.s = s;
    }

    void run() {
        newObject();
        set();
        put();
        poison();
        ask();
        forget();
    }

    private void newObject() {
        s.section("Promise 1: A new object");
        s.says("Creates shelves and loaves without recipes.");
        LoafMemory x = new LoafMemory();
        for (int shelf = 0; shelf < 12; shelf++) {
            for (int what = 0; what < 3; what++) {
                s.due("ofShelf(" + shelf + ", " + what + ")", x.ofShelf(shelf, what), 0);
            }
        }
        for (int loaf = 0; loaf < 6; loaf++) {
            for (int what = 0; what < 6; what++) {
                s.due("ofLoaf(" + loaf + ", " + what + ")", x.ofLoaf(loaf, what), 0);
            }
        }
        int[] counts = {0, 0, 0, 0, 0, 8, 1, 0};
        for (int what = 0; what < 8; what++) {
            s.due("count(" + what + ")", x.count(what), counts[what]);
        }
        s.due("fault() of an empty pad", x.fault(), 0);
        s.due("undo()", x.undo(), -5);
        s.due("restore(0)", x.restore(0), -5);
        s.due("restore(1)", x.restore(1), -5);
        x.put(0, 5);
        s.due("another object is another one", new LoafMemory().ofShelf(0, 0), 0);
    }

    private static LoafMemory some() {
        LoafMemory x = new LoafMemory();
        Texts.recipe(x, 0, "(a+b)");
        x.ask(0);
        x.put(1, 1);
        x.ask(0);
        x.poison(2, 1);
        x.type('a');
        return x;
    }

    private static LoafMemory someFull() {
        LoafMemory x = some();
        x.put(3, 1);
        x.put(3, 2);
        return x;
    }

    private static LoafMemory someWith(int number, int poisoned) {
        LoafMemory x = some();
        x.put(0, number);
        x.poison(0, poisoned);
        return x;
    }

    private void set() {
        s.section("Promise 2: set");
        s.says("Changes a setting. This is a change.");
        LoafMemory x = new LoafMemory();
        x.set(0, 3);
        x.set(1, 0);
        s.due("ROOM", x.count(5), 3);
        s.due("KEEP", x.count(6), 0);
        x.set(0, 4);
        s.due("KEEP does not change with ROOM", x.count(6), 0);
        x.set(1, 1);
        s.due("ROOM does not change with KEEP", x.count(5), 4);
        s.isChange("set(0, 1)", HappeningSentences::some, y -> y.set(0, 1));
        s.isChange("set(1, 0)", HappeningSentences::some, y -> y.set(1, 0));
        s.isChange("set(0, 8), as it is", HappeningSentences::some, y -> y.set(0, 8));
        s.isChange("set(0, 2) with a full history", HappeningSentences::someFull, y -> y.set(0, 2));
        s.says("Returns the previous value;");
        LoafMemory z = new LoafMemory();
        s.due("set(0, 16)", z.set(0, 16), 8);
        s.due("set(0, 1)", z.set(0, 1), 16);
        s.due("set(0, 1) again", z.set(0, 1), 1);
        s.due("set(1, 0)", z.set(1, 0), 1);
        s.due("set(1, 0) again", z.set(1, 0), 0);
        s.due("set(1, 1)", z.set(1, 1), 0);
        s.says("BAD_VALUE if there is no such setting, or the value is out of its range.");
        for (int setting : new int[] {-1, 2, 8, Integer.MIN_VALUE, Integer.MAX_VALUE}) {
            s.due("set(" + setting + ", 1)", z.set(setting, 1), -2);
            s.due("set(" + setting + ", 99)", z.set(setting, 99), -2);
        }
        for (int room : new int[] {0, -1, 17, 256, Integer.MIN_VALUE, Integer.MAX_VALUE}) {
            s.due("set(0, " + room + ")", z.set(0, room), -2);
        }
        for (int keep : NO_FLAG) {
            s.due("set(1, " + keep + ")", z.set(1, keep), -2);
        }
        s.due("the least ROOM", z.set(0, 1), 1);
        s.due("the greatest ROOM", z.set(0, 16), 1);
    }

    private void put() {
        s.section("Promise 3: put");
        s.says("Puts a number on a shelf. This is a change.");
        LoafMemory x = new LoafMemory();
        for (int shelf = 0; shelf < 12; shelf++) {
            x.put(shelf, 99 - shelf);
        }
        for (int shelf = 0; shelf < 12; shelf++) {
            s.due("number of " + shelf, x.ofShelf(shelf, 0), 99 - shelf);
        }
        x.poison(0, 1);
        x.put(0, 3);
        s.due("a poisoned shelf has the number", x.ofShelf(0, 0), 3);
        s.due("and stays poisoned", x.ofShelf(0, 1), 1);
        s.isChange("put(0, 5)", HappeningSentences::some, y -> y.put(0, 5));
        s.isChange("put(1, 1), as it is", HappeningSentences::some, y -> y.put(1, 1));
        s.isChange("put(11, 99) with a full history", HappeningSentences::someFull, y -> y.put(11, 99));
        s.says("0 to 99");
        s.due("put(0, 0)", x.put(0, 0), 3);
        s.due("put(0, 99)", x.put(0, 99), 0);
        s.due("put(0, -1)", x.put(0, -1), -2);
        s.due("put(0, 100)", x.put(0, 100), -2);
        s.says("Returns the previous number;");
        s.due("put(11, 0)", x.put(11, 0), 88);
        s.due("put(11, 7)", x.put(11, 7), 0);
        s.due("put(11, 7) again", x.put(11, 7), 7);
        s.due("put(0, 1)", x.put(0, 1), 99);
        s.says("NO_SUCH if there is no such shelf;");
        for (int shelf : NO_SHELF) {
            s.due("put(" + shelf + ", 0)", x.put(shelf, 0), -1);
            s.due("put(" + shelf + ", 100)", x.put(shelf, 100), -1);
        }
        s.says("BAD_VALUE if number is out of range.");
        for (int number : new int[] {-1, 100, 101, 256, Integer.MIN_VALUE, Integer.MAX_VALUE}) {
            s.due("put(11, " + number + ")", x.put(11, number), -2);
        }
        s.due("number that it has still", x.ofShelf(11, 0), 7);
    }

    private void poison() {
        s.section("Promise 4: poison");
        s.says("Poisons a shelf, or cleans it. This is a change.");
        LoafMemory x = new LoafMemory();
        Texts.recipe(x, 0, "l");
        x.put(11, 9);
        x.poison(11, 1);
        s.due("poisoned", x.ofShelf(11, 1), 1);
        s.due("ask of it", x.ask(0), 100);
        s.due("its number stays", x.ofShelf(11, 0), 9);
        s.due("the other ones are not", x.ofShelf(0, 1) + x.ofShelf(10, 1), 0);
        x.poison(0, 1);
        x.poison(11, 0);
        s.due("clean", x.ofShelf(11, 1), 0);
        s.due("ask of a clean one", x.ask(0), 9);
        s.due("the other one is poisoned", x.ofShelf(0, 1), 1);
        s.isChange("poison(0, 1)", HappeningSentences::some, y -> y.poison(0, 1));
        s.isChange("poison(2, 0)", HappeningSentences::some, y -> y.poison(2, 0));
        s.isChange("poison(2, 1), as it is", HappeningSentences::some, y -> y.poison(2, 1));
        s.isChange("poison(0, 1) with a full history", HappeningSentences::someFull, y -> y.poison(0, 1));
        s.says("1 or 0");
        s.due("poison(1, 2)", x.poison(1, 2), -2);
        s.due("poison(1, -1)", x.poison(1, -1), -2);
        s.due("poison(1, 1)", x.poison(1, 1), 0);
        s.due("poison(1, 0)", x.poison(1, 0), 1);
        s.says("Returns whether it was poisoned (1 or 0);");
        s.due("poison(5, 0)", x.poison(5, 0), 0);
        s.due("poison(5, 1)", x.poison(5, 1), 0);
        s.due("poison(5, 1) again", x.poison(5, 1), 1);
        s.due("poison(5, 0) then", x.poison(5, 0), 1);
        s.says("NO_SUCH if there is no such shelf;");
        for (int shelf : NO_SHELF) {
            s.due("poison(" + shelf + ", 1)", x.poison(shelf, 1), -1);
            s.due("poison(" + shelf + ", 2)", x.poison(shelf, 2), -1);
        }
        s.due("no other shelf was poisoned by these", x.ofShelf(11, 1) + x.ofShelf(1, 1), 0);
        s.says("BAD_VALUE if is is out of range.");
        for (int is : NO_FLAG) {
            s.due("poison(0, " + is + ")", x.poison(0, is), -2);
        }
        s.due("poisoned still", x.ofShelf(0, 1), 1);
    }

    private void ask() {
        s.section("Promise 5: ask");
        s.says("Asks for a loaf. This is a change.");
        LoafMemory x = new LoafMemory();
        Texts.recipe(x, 5, "(a*a)");
        x.put(0, 7);
        s.due("ask(5)", x.ask(5), 49);
        s.due("it was baked", x.ofLoaf(5, 3), 1);
        s.due("ask(5) again", x.ask(5), 49);
        s.due("it was given again", x.ofLoaf(5, 4), 1);
        s.isChange("ask(0), given again", HappeningSentences::some, y -> y.ask(0));
        s.isChange("ask(1), without a recipe", HappeningSentences::some, y -> y.ask(1));
        s.isChange("ask(0), baked", () -> someWith(9, 0), y -> y.ask(0));
        s.isChange("ask(0), poisoned", () -> someWith(0, 1), y -> y.ask(0));
        s.isChange("ask(0) with a full history", HappeningSentences::someFull, y -> y.ask(0));
        s.says("Returns its result, 0 to 99, or POISON;");
        Texts.recipe(x, 5, "a");
        x.put(0, 0);
        s.due("the least result", x.ask(5), 0);
        x.put(0, 99);
        s.due("the greatest result", x.ask(5), 99);
        x.poison(0, 1);
        s.due("poison", x.ask(5), 100);
        s.due("poison that is given again", x.ask(5), 100);
        s.due("no recipe", x.ask(4), 100);
        s.says("NO_SUCH if there is no such loaf.");
        for (int loaf : NO_LOAF) {
            s.due("ask(" + loaf + ")", x.ask(loaf), -1);
        }
    }

    private void forget() {
        s.section("Promise 6: forget");
        s.says("Forgets a memory. This is a change.");
        LoafMemory x = new LoafMemory();
        for (int loaf = 0; loaf < 4; loaf++) {
            Texts.recipe(x, loaf, "" + loaf);
            x.ask(loaf);
        }
        x.forget(1);
        s.due("it is not there", x.count(0), 3);
        s.due("of loaf 2", x.ofLoaf(2, 5), 0);
        s.due("it is baked anew", x.ask(2) * 10 + x.ofLoaf(2, 3), 22);
        s.isChange("forget(0)", HappeningSentences::some, y -> y.forget(0));
        s.isChange("forget(1)", HappeningSentences::some, y -> y.forget(1));
        s.isChange("forget(0) with a full history", HappeningSentences::someFull, y -> y.forget(0));
        s.says("its place, 0 for the one that was used last");
        x.ask(1);
        s.due("the last one is of loaf 1", x.ofMemory(0, 0), 1);
        x.forget(0);
        s.due("it was forgotten", x.ofLoaf(1, 5), 0);
        s.due("the last one is of loaf 2 then", x.ofMemory(0, 0), 2);
        x.forget(2);
        s.due("the first one was forgotten", x.ofLoaf(0, 5), 0);
        x.ask(2);
        s.due("loaf 2, then loaf 3", x.ofMemory(0, 0) * 10 + x.ofMemory(1, 0), 23);
        s.says("Returns how many memories there are then;");
        s.due("forget(1) of two", x.forget(1), 1);
        s.due("forget(0) of one", x.forget(0), 0);
        x.set(0, 16);
        for (int number = 0; number < 16; number++) {
            x.put(0, number);
            Texts.recipe(x, 0, "a");
            x.ask(0);
            s.due("forget(0) of one that came", x.forget(0), 0);
        }
        for (int number = 0; number < 16; number++) {
            x.put(0, number);
            x.ask(0);
        }
        s.due("forget(15) of sixteen", x.forget(15), 15);
        s.due("forget(0) of fifteen", x.forget(0), 14);
        s.says("NO_SUCH if there is no such memory.");
        s.due("forget(14) of fourteen", x.forget(14), -1);
        for (int memory : new int[] {-1, 15, 16, 17, Integer.MIN_VALUE, Integer.MAX_VALUE}) {
            s.due("forget(" + memory + ")", x.forget(memory), -1);
        }
        s.due("forget(13) of fourteen", x.forget(13), 13);
        s.due("forget(0) of a new object", new LoafMemory().forget(0), -1);
    }
}
