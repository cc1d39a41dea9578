/** Promises 11 to 15: a test for each sentence. */
final class WhatIsSentences {
    private static final int[] NO_SHELF = {-1, 12, 31, 32, Integer.MIN_VALUE, Integer.MAX_VALUE};
    private static final int[] NO_LOAF = {-1, 6, 20, 32, Integer.MIN_VALUE, Integer.MAX_VALUE};

    private final Sentences s;

    WhatIsSentences(Sentences s) {
        this.s = s;
    }

    void run() {
        ofShelf();
        ofLoaf();
        ofMemory();
        look();
        count();
        countErrors();
    }

    private static LoafMemory some() {
        LoafMemory x = new LoafMemory();
        Texts.recipe(x, 0, "(a+l)");
        Texts.recipe(x, 5, "{#0?(#4+a):b}");
        x.put(0, 1);
        x.put(11, 99);
        x.poison(2, 1);
        x.ask(5);
        x.type('a');
        return x;
    }

    private void ofShelf() {
        s.section("Promise 11: ofShelf");
        s.says("Returns a number about a shelf.");
        s.changesNothing("ofShelf(11, 0)", WhatIsSentences::some, x -> x.ofShelf(11, 0));
        s.changesNothing("ofShelf(0, 2)", WhatIsSentences::some, x -> x.ofShelf(0, 2));
        LoafMemory x = some();
        s.due("of the first one", x.ofShelf(0, 0), 1);
        s.due("of the last one", x.ofShelf(11, 0), 99);
        s.says("0 its number, 1 whether it is poisoned (1 or 0), 2 the loaves whose recipes name it, as a set");
        s.due("number of b", x.ofShelf(1, 0), 0);
        s.due("poison of b", x.ofShelf(1, 1), 0);
        s.due("poison of c", x.ofShelf(2, 1), 1);
        s.due("names of a", x.ofShelf(0, 2), 0b100001);
        s.due("names of b", x.ofShelf(1, 2), 0b100000);
        s.due("names of c", x.ofShelf(2, 2), 0);
        s.due("names of l", x.ofShelf(11, 2), 0b000001);
        for (int loaf = 0; loaf < 6; loaf++) {
            Texts.recipe(x, loaf, "(k*k)");
        }
        s.due("names of k", x.ofShelf(10, 2), 0b111111);
        s.due("names of a then", x.ofShelf(0, 2), 0);
        s.says("Returns the number;");
        for (int shelf = 0; shelf < 12; shelf++) {
            x.put(shelf, 99 - shelf);
            s.due("number of " + shelf, x.ofShelf(shelf, 0), 99 - shelf);
        }
        x.poison(0, 1);
        s.due("number of a poisoned one", x.ofShelf(0, 0), 99);
        s.says("NO_SUCH if there is no such shelf;");
        for (int shelf : NO_SHELF) {
            s.due("ofShelf(" + shelf + ", 0)", x.ofShelf(shelf, 0), -1);
            s.due("ofShelf(" + shelf + ", 2)", x.ofShelf(shelf, 2), -1);
            s.due("ofShelf(" + shelf + ", 3)", x.ofShelf(shelf, 3), -1);
        }
        s.says("BAD_VALUE if what is out of range.");
        for (int what : new int[] {-1, 3, 4, Integer.MIN_VALUE, Integer.MAX_VALUE}) {
            s.due("ofShelf(0, " + what + ")", x.ofShelf(0, what), -2);
        }
    }

    private void ofLoaf() {
        s.section("Promise 12: ofLoaf");
        s.says("Returns a number about a loaf.");
        s.changesNothing("ofLoaf(5, 0)", WhatIsSentences::some, x -> x.ofLoaf(5, 0));
        s.changesNothing("ofLoaf(0, 5)", WhatIsSentences::some, x -> x.ofLoaf(0, 5));
        LoafMemory x = some();
        s.due("of the first one", x.ofLoaf(0, 1), 0b100000000001);
        s.due("of the last one", x.ofLoaf(5, 1), 0b11);
        s.says("0 whether it has a recipe (1 or 0), 1 the shelves that its recipe names, as a set, 2 the loaves that it names, as a set, 3 how often "
            + "it was baked so far, 4 how often a memory of it was used without baking so far, 5 its memories");
        x = new LoafMemory();
        for (int what = 0; what < 6; what++) {
            s.due("ofLoaf(3, " + what + ") without a recipe", x.ofLoaf(3, what), 0);
        }
        Texts.recipe(x, 0, "c");
        Texts.recipe(x, 3, "{1?(a+#0):(#2*l)}");
        ofLoaf(x, 3, 1, 0b100000000001, 0b101, 0, 0, 0);
        x.ask(3);
        ofLoaf(x, 3, 1, 0b100000000001, 0b101, 1, 0, 1);
        ofLoaf(x, 0, 1, 0b100, 0, 1, 0, 1);
        ofLoaf(x, 2, 0, 0, 0, 0, 0, 0);
        x.ask(3);
        ofLoaf(x, 3, 1, 0b100000000001, 0b101, 1, 1, 1);
        ofLoaf(x, 0, 1, 0b100, 0, 1, 1, 1);
        x.put(0, 1);
        x.ask(3);
        ofLoaf(x, 3, 1, 0b100000000001, 0b101, 2, 1, 2);
        ofLoaf(x, 0, 1, 0b100, 0, 1, 2, 1);
        x.forget(0);
        ofLoaf(x, 3, 1, 0b100000000001, 0b101, 2, 1, 1);
        Texts.recipe(x, 3, "7");
        ofLoaf(x, 3, 1, 0, 0, 2, 1, 0);
        ofLoafErrors(x);
    }

    private void ofLoafErrors(LoafMemory x) {
        s.says("Returns the number;");
        s.due("7 was not baked", x.ofLoaf(3, 3), 2);
        x.ask(3);
        s.due("7 was baked", x.ofLoaf(3, 3), 3);
        s.says("NO_SUCH if there is no such loaf;");
        for (int loaf : NO_LOAF) {
            s.due("ofLoaf(" + loaf + ", 0)", x.ofLoaf(loaf, 0), -1);
            s.due("ofLoaf(" + loaf + ", 5)", x.ofLoaf(loaf, 5), -1);
            s.due("ofLoaf(" + loaf + ", 6)", x.ofLoaf(loaf, 6), -1);
        }
        s.says("BAD_VALUE if what is out of range.");
        for (int what : new int[] {-1, 6, 7, Integer.MIN_VALUE, Integer.MAX_VALUE}) {
            s.due("ofLoaf(3, " + what + ")", x.ofLoaf(3, what), -2);
            s.due("ofLoaf(2, " + what + ") without a recipe", x.ofLoaf(2, what), -2);
        }
    }

    private void ofLoaf(LoafMemory x, int loaf, int... numbers) {
        for (int what = 0; what < numbers.length; what++) {
            s.due("ofLoaf(" + loaf + ", " + what + ")", x.ofLoaf(loaf, what), numbers[what]);
        }
    }

    private void ofMemory() {
        s.section("Promise 13: ofMemory");
        s.says("Returns a number about a memory.");
        s.changesNothing("ofMemory(0, 0)", WhatIsSentences::some, x -> x.ofMemory(0, 0));
        s.changesNothing("ofMemory(1, 4)", WhatIsSentences::some, x -> x.ofMemory(1, 4));
        LoafMemory x = new LoafMemory();
        Texts.recipe(x, 0, "a");
        x.set(LoafMemory.ROOM, 16);
        for (int number = 0; number < 16; number++) {
            x.put(0, number);
            x.ask(0);
        }
        s.due("of the first one of sixteen", x.ofMemory(0, 1), 15);
        s.due("of the last one of sixteen", x.ofMemory(15, 1), 0);
        s.says("its place, 0 for the one that was used last");
        x.put(0, 3);
        x.ask(0);
        s.due("place 0", x.ofMemory(0, 1), 3);
        s.due("place 1", x.ofMemory(1, 1), 15);
        s.due("place 12", x.ofMemory(12, 1), 4);
        s.due("place 13", x.ofMemory(13, 1), 2);
        s.says("0 its loaf, 1 its result, 2 how many shelves and loaves were looked at, 3 the steps of its baking, 4 how often it was used, with the "
            + "first time");
        LoafMemory y = new LoafMemory();
        Texts.recipe(y, 2, "((b+b)*(#0-a))");
        Texts.recipe(y, 0, "9");
        y.put(1, 5);
        y.put(0, 2);
        y.ask(2);
        ofMemory(y, 0, 2, 70, 3, 7, 1);
        ofMemory(y, 1, 0, 9, 0, 1, 1);
        y.ask(2);
        ofMemory(y, 0, 2, 70, 3, 7, 2);
        ofMemory(y, 1, 0, 9, 0, 1, 2);
        y.poison(1, 1);
        y.ask(2);
        ofMemory(y, 0, 2, 100, 1, 1, 1);
        ofMemory(y, 1, 2, 70, 3, 7, 2);
        ofMemory(y, 2, 0, 9, 0, 1, 2);
        s.says("Returns the number;");
        y.poison(1, 0);
        y.ask(2);
        ofMemory(y, 0, 2, 70, 3, 7, 3);
        s.says("NO_SUCH if there is no such memory;");
        for (int memory : new int[] {-1, 3, 4, 16, 17, Integer.MIN_VALUE, Integer.MAX_VALUE}) {
            s.due("ofMemory(" + memory + ", 0) of three", y.ofMemory(memory, 0), -1);
            s.due("ofMemory(" + memory + ", 5) of three", y.ofMemory(memory, 5), -1);
        }
        s.due("ofMemory(16, 0) of sixteen", x.ofMemory(16, 0), -1);
        s.due("ofMemory(0, 0) of none", new LoafMemory().ofMemory(0, 0), -1);
        y.forget(1);
        s.due("ofMemory(2, 0) of two", y.ofMemory(2, 0), -1);
        s.says("BAD_VALUE if what is out of range.");
        for (int what : new int[] {-1, 5, 6, Integer.MIN_VALUE, Integer.MAX_VALUE}) {
            s.due("ofMemory(0, " + what + ")", y.ofMemory(0, what), -2);
        }
    }

    private void ofMemory(LoafMemory x, int memory, int... numbers) {
        for (int what = 0; what < numbers.length; what++) {
            s.due("ofMemory(" + memory + ", " + what + ")", x.ofMemory(memory, what), numbers[what]);
        }
    }

    private void look() {
        s.section("Promise 14: look");
        s.says("Returns what was looked at before a loaf that is remembered.");
        s.changesNothing("look(0, 0, 0)", WhatIsSentences::some, x -> x.look(0, 0, 0));
        LoafMemory x = new LoafMemory();
        Texts.recipe(x, 4, "l");
        Texts.recipe(x, 5, "((l+#4)+({a?b:c}+#0))");
        Texts.recipe(x, 0, "8");
        x.put(11, 6);
        x.ask(5);
        int[][] looks = {{11, 6}, {24, 6}, {0, 0}, {2, 0}, {20, 8}};
        look(x, looks);
        x.put(11, 7);
        x.put(2, 5);
        look(x, looks);
        s.says("its place, 0 for the one that was used last");
        s.due("loaf 5 looked at l first", x.look(0, 0, 1), 6);
        s.due("loaf 0 looked at nothing", x.look(1, 0, 0), -1);
        s.due("loaf 4 looked at l", x.look(2, 0, 0), 11);
        x.ask(4);
        s.due("the last one is loaf 4 then", x.look(0, 0, 1), 7);
        s.due("then loaf 5", x.look(1, 1, 0), 24);
        s.says("0 for what was looked at first");
        s.due("look 0 of loaf 5", x.look(1, 0, 0), 11);
        s.due("look 4 of loaf 5", x.look(1, 4, 0), 20);
        s.says("0 the shelf (0 to 11) or the loaf (20 and its number), 1 its value");
        x.ask(5);
        looks = new int[][] {{11, 7}, {24, 7}, {0, 0}, {2, 5}, {20, 8}};
        look(x, looks);
        x.poison(2, 1);
        x.ask(5);
        looks = new int[][] {{11, 7}, {24, 7}, {0, 0}, {2, 100}};
        look(x, looks);
        lookErrors(x);
    }

    private void lookErrors(LoafMemory x) {
        s.says("Returns the number;");
        s.due("a shelf", x.look(0, 0, 0), 11);
        s.due("a value", x.look(0, 0, 1), 7);
        s.says("NO_SUCH if there is no such memory or look;");
        for (int no : new int[] {-1, 16, 17, 18, Integer.MIN_VALUE, Integer.MAX_VALUE}) {
            s.due("look(" + no + ", 0, 0)", x.look(no, 0, 0), -1);
            s.due("look(" + no + ", 0, 2)", x.look(no, 0, 2), -1);
            s.due("look(0, " + no + ", 0)", x.look(0, no, 0), -1);
            s.due("look(0, " + no + ", 2)", x.look(0, no, 2), -1);
        }
        int memories = x.count(0);
        s.due("the first memory that is not there", x.look(memories, 0, 0), -1);
        s.due("the first look that is not there", x.look(0, 4, 0), -1);
        s.due("of a new object", new LoafMemory().look(0, 0, 0), -1);
        s.says("BAD_VALUE if what is neither 0 nor 1.");
        for (int what : new int[] {-1, 2, 3, Integer.MIN_VALUE, Integer.MAX_VALUE}) {
            s.due("look(0, 0, " + what + ")", x.look(0, 0, what), -2);
        }
    }

    private void look(LoafMemory x, int[][] looks) {
        for (int look = 0; look < looks.length; look++) {
            s.due("look(0, " + look + ", 0)", x.look(0, look, 0), looks[look][0]);
            s.due("look(0, " + look + ", 1)", x.look(0, look, 1), looks[look][1]);
        }
        s.due("no look more", x.look(0, looks.length, 0), -1);
    }

    private void count() {
        s.section("Promise 15: count");
        s.says("Returns a number.");
        s.changesNothing("count(0)", WhatIsSentences::some, x -> x.count(0));
        s.changesNothing("count(4)", WhatIsSentences::some, x -> x.count(4));
        LoafMemory x = new LoafMemory();
        counts(x, 0, 0, 0, 0, 0, 8, 1, 0);
        s.says("0 memories, 1 steps that were made so far, 2 steps that were saved so far (those of the baking of each memory that was used without "
            + "baking), 3 the length of the pad, 4 how many changes can be undone, 5, 6 the settings, 7 the set of the loaves that have a recipe");
        Texts.recipe(x, 0, "(a+b)");
        Texts.recipe(x, 5, "{#0?(#0-1):c}");
        counts(x, 0, 0, 0, 0, 2, 8, 1, 0b100001);
        x.ask(5);
        counts(x, 2, 6, 0, 0, 3, 8, 1, 0b100001);
        x.ask(5);
        counts(x, 2, 6, 6, 0, 4, 8, 1, 0b100001);
        x.put(0, 9);
        x.type(Texts.packed("ab"));
        x.ask(5);
        counts(x, 4, 14, 9, 2, 6, 8, 1, 0b100001);
        x.ask(0);
        counts(x, 4, 14, 12, 2, 6, 8, 1, 0b100001);
        x.set(0, 3);
        x.set(1, 0);
        counts(x, 3, 14, 12, 2, 6, 3, 0, 0b100001);
        x.forget(1);
        counts(x, 2, 14, 12, 2, 6, 3, 0, 0b100001);
        Texts.recipe(x, 0, "1");
        counts(x, 1, 14, 12, 0, 6, 3, 0, 0b100001);
        x.undo();
        counts(x, 2, 14, 12, 0, 5, 3, 0, 0b100001);
    }

    private void counts(LoafMemory x, int... numbers) {
        for (int what = 0; what < numbers.length; what++) {
            s.due("count(" + what + ")", x.count(what), numbers[what]);
        }
    }

    private void countErrors() {
        s.says("Returns the number;");
        LoafMemory x = some();
        counts(x, 2, 6, 0, 1, 6, 8, 1, 0b100001);
        s.says("BAD_VALUE if what is out of range.");
        for (int what : new int[] {-1, 8, 9, Integer.MIN_VALUE, Integer.MAX_VALUE}) {
            s.due("count(" + what + ")", x.count(what), -2);
        }
    }
}
