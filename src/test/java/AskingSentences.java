/** Section "Terms", asking and memories: a test for each sentence. */
final class AskingSentences {
    private final Sentences s;

    AskingSentences(Sentences s) {
        this.s = s;
    }

    void run() {
        s.section("Terms");
        s.promisesNothing("Asking, memories");
        noRecipe();
        goneThrough();
        forgottenMeanwhile();
        upToTheFirst();
        valuesNow();
        firstThatFits();
        noneFits();
        poisonIsKeptOrNot();
        usedLast();
        tooManyForRoom();
        recipeChanged();
        roomBecomesLess();
    }

    private void noRecipe() {
        s.says("To ask for a loaf without a recipe gives POISON, and nothing else.");
        for (int loaf = 0; loaf < 6; loaf++) {
            LoafMemory x = new LoafMemory();
            LoafMemory y = new LoafMemory();
            s.due("ask(" + loaf + ")", x.ask(loaf), 100);
            y.put(0, 0);
            s.same("ask(" + loaf + ")", x, y);
        }
    }

    /** Loaf 0 is a, loaf 1 is a recipe that names it. */
    private static LoafMemory twoLoaves(String recipe) {
        LoafMemory x = new LoafMemory();
        Texts.recipe(x, 0, "a");
        Texts.recipe(x, 1, recipe);
        return x;
    }

    private void goneThrough() {
        s.says("To ask for another one means: its memories, those that there are as it is asked for, are gone through, the one that was used last "
            + "first");
        LoafMemory x = twoLoaves("(#0+b)");
        s.due("ask with b = 0", x.ask(1), 0);
        s.due("loaf 0 is not given again", x.ofLoaf(0, 4), 0);
        x.put(1, 5);
        s.due("ask with b = 5", x.ask(1), 5);
        s.due("#0 by the memory of 0, and by the baking", x.ofLoaf(0, 4), 2);
        s.due("ask with b = 5 again", x.ask(1), 5);
        s.due("#0 by the memory of 5 alone", x.ofLoaf(0, 4), 3);
        x.put(1, 0);
        s.due("ask with b = 0 then", x.ask(1), 0);
        s.due("#0 by the memory of 5, then by that of 0", x.ofLoaf(0, 4), 5);
        s.due("ask with b = 0 once more", x.ask(1), 0);
        s.due("#0 by the memory of 0 alone, it was used last", x.ofLoaf(0, 4), 6);
        s.due("two bakings", x.ofLoaf(1, 3), 2);
        LoafMemory y = twoLoaves("b");
        y.set(LoafMemory.ROOM, 16);
        for (int number = 0; number < 16; number++) {
            y.put(0, number);
            y.ask(0);
        }
        for (int number = 0; number < 16; number++) {
            y.put(0, number);
            s.due("the last one of sixteen", y.ask(0), number);
            s.due("is given again", y.ofLoaf(0, 4), number + 1);
        }
        s.due("sixteen bakings", y.ofLoaf(0, 3), 16);
    }

    private void forgottenMeanwhile() {
        s.says("(one that is forgotten meanwhile is left out at once, and nothing more of it is looked at).");
        LoafMemory x = twoLoaves("5");
        Texts.recipe(x, 1, "b");
        Texts.recipe(x, 2, "(#0+#1)");
        x.set(LoafMemory.ROOM, 1);
        x.ask(2);
        s.due("ask(2), its memory goes as loaf 0 comes", x.ask(2), 0);
        s.due("loaf 0 by the look and given again by the baking", x.ofLoaf(0, 3) * 10 + x.ofLoaf(0, 4), 21);
        s.due("loaf 1 by the baking alone", x.ofLoaf(1, 3) * 10 + x.ofLoaf(1, 4), 20);
        s.due("loaf 2 by bakings alone", x.ofLoaf(2, 3) * 10 + x.ofLoaf(2, 4), 20);

        LoafMemory y = twoLoaves("#0");
        y.set(LoafMemory.ROOM, 1);
        y.ask(1);
        s.due("ask(1), its memory goes by its last look, which has the same value", y.ask(1), 0);
        s.due("it is left out all the same", y.ofLoaf(1, 3) * 10 + y.ofLoaf(1, 4), 20);

        LoafMemory z = twoLoaves("(#0+b)");
        z.set(LoafMemory.ROOM, 3);
        z.ask(1);
        z.put(1, 1);
        z.ask(1);
        z.put(0, 9);
        s.due("ask(1), the older memory goes while the other one is looked at", z.ask(1), 10);
        s.due("its #0 is not asked for", z.ofLoaf(0, 4), 3);
        s.due("memories of loaf 1", z.ofLoaf(1, 5), 2);

        LoafMemory v = twoLoaves("(#0+b)");
        Texts.recipe(v, 0, "7");
        v.ask(1);
        v.put(1, 1);
        v.ask(1);
        v.forget(1);
        v.set(LoafMemory.ROOM, 2);
        v.put(1, 2);
        s.due("ask(1), the older memory goes, and loaf 0, which looks at nothing, comes", v.ask(1), 9);
        s.due("loaf 1 is baked", v.ofLoaf(1, 3) * 10 + v.ofLoaf(1, 4), 30);
        order(v, "10");
    }

    private void upToTheFirst() {
        s.says("A memory fits if all that was looked at has the same value now; this is looked at in its order, up to the first one that has not");
        LoafMemory x = twoLoaves("(b+(#0+c))");
        x.put(2, 4);
        s.due("ask", x.ask(1), 4);
        x.put(1, 1);
        s.due("ask, b is another one", x.ask(1), 5);
        s.due("#0 was given to the baking alone", x.ofLoaf(0, 4), 1);
        x.put(2, 6);
        s.due("ask, c is another one", x.ask(1), 7);
        s.due("#0 was given to the memory with the same b, and to the baking", x.ofLoaf(0, 4), 3);
        x.put(0, 30);
        s.due("ask, #0 is another one", x.ask(1), 37);
        s.due("loaf 0 was baked by the first memory's look", x.ofLoaf(0, 3), 2);
        s.due("and given to the second one's, and to the baking", x.ofLoaf(0, 4), 5);
        s.due("the memories of loaf 1", x.ofLoaf(1, 5), 4);
        LoafMemory y = twoLoaves("7");
        y.ask(1);
        y.put(0, 1);
        y.poison(0, 1);
        s.due("a memory that looked at nothing", y.ask(1), 7);
        s.due("fits always", y.ofLoaf(1, 4), 1);
    }

    private void valuesNow() {
        s.says("(a shelf has the value POISON if it is poisoned; a loaf is asked for, each time).");
        LoafMemory x = twoLoaves("b");
        x.put(1, 5);
        x.ask(1);
        x.poison(1, 1);
        s.due("the same number, but poisoned", x.ask(1), 100);
        s.due("is baked", x.ofLoaf(1, 3), 2);
        x.put(1, 6);
        s.due("another number, still poisoned", x.ask(1), 100);
        s.due("is not baked", x.ofLoaf(1, 3), 2);
        x.poison(1, 0);
        x.put(1, 5);
        s.due("the number, clean again", x.ask(1), 5);
        s.due("is given again", x.ofLoaf(1, 3) * 10 + x.ofLoaf(1, 4), 22);
        LoafMemory y = twoLoaves("(#0+b)");
        for (int number = 0; number < 4; number++) {
            y.put(1, number);
            y.ask(1);
        }
        s.due("#0 by each memory that there was, and by each baking but the first", y.ofLoaf(0, 4), 1 + 2 + 3 + 3);
        LoafMemory z = new LoafMemory();
        Texts.recipe(z, 1, "#0");
        z.ask(1);
        s.due("a loaf without a recipe is POISON still", z.ask(1), 100);
        s.due("that fits", z.ofLoaf(1, 4), 1);
        Texts.recipe(z, 0, "3");
        s.due("a loaf that has a recipe now", z.ask(1), 3);
        s.due("that is baked", z.ofLoaf(1, 3), 2);
    }

    private void firstThatFits() {
        s.says("The first one that fits is used: its result is the result.");
        LoafMemory x = twoLoaves("(b*2)");
        for (int number = 10; number < 13; number++) {
            x.put(1, number);
            x.ask(1);
        }
        for (int number = 10; number < 13; number++) {
            x.put(1, number);
            s.due("ask with b = " + number, x.ask(1), 2 * number);
            s.due("it is the one that was used last", x.ofMemory(0, 1), 2 * number);
            s.due("its uses", x.ofMemory(0, 4), 2);
        }
        s.due("no baking more", x.ofLoaf(1, 3), 3);
        s.due("no memory more", x.count(0), 3);
        x.ask(1);
        s.due("uses of the last one", x.ofMemory(0, 4), 3);
        s.due("uses of the one before", x.ofMemory(1, 4), 2);
    }

    private void noneFits() {
        s.says("If none fits, the loaf is baked; then it is remembered, with what was looked at and its result, and this memory is used;");
        LoafMemory x = twoLoaves("(b*#0)");
        x.put(0, 3);
        x.put(1, 4);
        s.due("ask, there is none", x.ask(1), 12);
        x.put(1, 5);
        s.due("ask, one that does not fit", x.ask(1), 15);
        s.due("loaf", x.ofMemory(0, 0), 1);
        s.due("result", x.ofMemory(0, 1), 15);
        s.due("looks", x.ofMemory(0, 2), 2);
        s.due("steps", x.ofMemory(0, 3), 3);
        s.due("uses", x.ofMemory(0, 4), 1);
        s.due("b", x.look(0, 0, 0) * 1000 + x.look(0, 0, 1), 1005);
        s.due("#0", x.look(0, 1, 0) * 1000 + x.look(0, 1, 1), 20003);
        s.due("bakings", x.ofLoaf(1, 3), 2);
        s.due("not given again", x.ofLoaf(1, 4), 0);
    }

    private void poisonIsKeptOrNot() {
        s.says("but if the result is POISON and KEEP is 0, it is not remembered.");
        LoafMemory x = twoLoaves("(b+#0)");
        x.set(LoafMemory.KEEP, 0);
        s.due("a result of 0", x.ask(1), 0);
        s.due("is remembered", x.ofLoaf(1, 5), 1);
        x.poison(0, 1);
        s.due("poison of #0", x.ask(1), 100);
        s.due("is not remembered", x.count(0), 2);
        s.due("but baked", x.ofLoaf(1, 3) * 10 + x.ofLoaf(0, 3), 23);
        s.due("each time, #0 by the memory and by the baking", x.ask(1), 100);
        s.due("bakings then", x.ofLoaf(1, 3) * 10 + x.ofLoaf(0, 3), 35);
        x.set(LoafMemory.KEEP, 1);
        s.due("poison with KEEP", x.ask(1), 100);
        s.due("is remembered", x.count(0), 4);
        x.set(LoafMemory.KEEP, 0);
        s.due("poison that was remembered", x.ask(1), 100);
        s.due("is given again without KEEP", x.ofLoaf(1, 4), 1);
        s.due("and stays", x.count(0), 4);
    }

    private void usedLast() {
        s.says("A memory that is used is the one that was used last of all then. (Loaves that are asked for meanwhile have used theirs ahead of it.)");
        LoafMemory x = twoLoaves("#0");
        Texts.recipe(x, 2, "(#1+b)");
        Texts.recipe(x, 3, "3");
        x.ask(2);
        order(x, "210");
        x.ask(3);
        order(x, "3210");
        x.ask(0);
        order(x, "0321");
        x.ask(2);
        order(x, "2103");
        x.ask(2);
        order(x, "2103");
        x.ask(1);
        order(x, "1023");
        x.put(1, 1);
        x.ask(2);
        order(x, "21023");
    }

    private void order(LoafMemory x, String loaves) {
        StringBuilder told = new StringBuilder();
        for (int memory = 0; memory < x.count(0); memory++) {
            told.append(x.ofMemory(memory, 0));
        }
        s.holds("the memories are of " + loaves + ", not of " + told, told.toString().equals(loaves));
    }

    private void tooManyForRoom() {
        s.says("When a memory comes and there are more than ROOM then, those that were used the longest ago are forgotten, until there are ROOM.");
        LoafMemory x = twoLoaves("b");
        x.set(LoafMemory.ROOM, 2);
        x.ask(0);
        x.ask(1);
        s.due("as many as ROOM", x.count(0), 2);
        x.ask(0);
        x.put(1, 1);
        x.ask(1);
        s.due("one more", x.count(0), 2);
        order(x, "10");
        s.due("the newer one of loaf 1 is left", x.ofMemory(0, 1), 1);
        x.put(0, 7);
        x.ask(0);
        order(x, "01");
        x.ask(1);
        x.put(0, 0);
        x.ask(0);
        s.due("the first one of loaf 0 was forgotten", x.ofLoaf(0, 3), 3);
        LoafMemory y = twoLoaves("#0");
        y.set(LoafMemory.ROOM, 1);
        y.ask(1);
        order(y, "1");
        LoafMemory z = twoLoaves("b");
        z.set(LoafMemory.ROOM, 16);
        for (int number = 0; number < 17; number++) {
            z.put(0, number);
            z.ask(0);
        }
        s.due("sixteen of seventeen", z.count(0), 16);
        s.due("the first one is not left", z.ofMemory(15, 1), 1);
        s.due("the last one is", z.ofMemory(0, 1), 16);
    }

    private void recipeChanged() {
        s.says("When a recipe is changed, the memories of this loaf are forgotten.");
        LoafMemory x = twoLoaves("(#0+b)");
        x.ask(1);
        x.put(0, 4);
        x.ask(1);
        order(x, "1010");
        Texts.recipe(x, 0, "(a+0)");
        order(x, "11");
        s.due("loaf 1 fits, it is the same value", x.ask(1), 4);
        s.due("it was not baked again", x.ofLoaf(1, 3), 2);
        order(x, "101");
        Texts.recipe(x, 1, "(#0+b)");
        order(x, "0");
        Texts.recipe(x, 5, "1");
        order(x, "0");
    }

    private void roomBecomesLess() {
        s.says("When ROOM becomes less, the ones used the longest ago are forgotten, as many as are too many.");
        LoafMemory x = new LoafMemory();
        for (int loaf = 0; loaf < 6; loaf++) {
            Texts.recipe(x, loaf, "" + loaf);
            x.ask(loaf);
        }
        x.ask(2);
        order(x, "254310");
        x.set(LoafMemory.ROOM, 7);
        order(x, "254310");
        x.set(LoafMemory.ROOM, 6);
        order(x, "254310");
        x.set(LoafMemory.ROOM, 5);
        order(x, "25431");
        x.set(LoafMemory.ROOM, 16);
        order(x, "25431");
        x.set(LoafMemory.ROOM, 2);
        order(x, "25");
        x.set(LoafMemory.ROOM, 1);
        order(x, "2");
        x.set(LoafMemory.KEEP, 0);
        order(x, "2");
    }
}
