/** Promises 1 to 6: a new object, set, put, poison, ask, forget. */
public final class HappeningTest {
    private static final Due D = new Due();

    public static void main(String[] args) {
        newObject();
        set();
        setForgets();
        put();
        poison();
        askForNoRecipe();
        askReckons();
        askGivesAgain();
        askInOrder();
        askAsksEachTime();
        askEndsAtPoison();
        askWithoutKeep();
        askForgetsTheOldest();
        askLeavesOutWhatIsForgottenMeanwhile();
        forget();
        D.end();
    }

    private static void newObject() {
        LoafMemory x = new LoafMemory();
        for (int shelf = 0; shelf < 12; shelf++) {
            D.due("new: number of " + shelf, x.ofShelf(shelf, 0), 0);
            D.due("new: poisoned " + shelf, x.ofShelf(shelf, 1), 0);
            D.due("new: named by " + shelf, x.ofShelf(shelf, 2), 0);
        }
        for (int loaf = 0; loaf < 6; loaf++) {
            for (int what = 0; what < 6; what++) {
                D.due("new: ofLoaf(" + loaf + ", " + what + ")", x.ofLoaf(loaf, what), 0);
            }
        }
        int[] counts = {0, 0, 0, 0, 0, 8, 1, 0};
        for (int what = 0; what < 8; what++) {
            D.due("new: count(" + what + ")", x.count(what), counts[what]);
        }
        D.due("new: undo()", x.undo(), -5);
        D.due("new: restore(0)", x.restore(0), -5);
        D.due("new: restore(1)", x.restore(1), -5);
    }

    private static void set() {
        LoafMemory x = new LoafMemory();
        D.due("set(ROOM, 16)", x.set(LoafMemory.ROOM, 16), 8);
        D.due("set(ROOM, 1)", x.set(0, 1), 16);
        D.due("count(5)", x.count(5), 1);
        D.due("set(ROOM, 17)", x.set(0, 17), -2);
        D.due("set(ROOM, 0)", x.set(0, 0), -2);
        D.due("set(ROOM, -1)", x.set(0, -1), -2);
        D.due("set(ROOM, least)", x.set(0, Integer.MIN_VALUE), -2);
        D.due("set(KEEP, 0)", x.set(LoafMemory.KEEP, 0), 1);
        D.due("set(KEEP, 0) again", x.set(1, 0), 0);
        D.due("count(6)", x.count(6), 0);
        D.due("set(KEEP, 2)", x.set(1, 2), -2);
        D.due("set(KEEP, -1)", x.set(1, -1), -2);
        D.due("set(-1, 1)", x.set(-1, 1), -2);
        D.due("set(2, 1)", x.set(2, 1), -2);
        D.due("set(greatest, 1)", x.set(Integer.MAX_VALUE, 1), -2);
        D.due("errors changed no room", x.count(5), 1);
        D.due("errors changed no keep", x.count(6), 0);
        D.due("four changes, no error", x.count(4), 4);
        D.due("set is undone", x.undo(), 3);
        D.due("keep is still 0", x.count(6), 0);
        D.due("set is undone again", x.undo(), 2);
        D.due("keep is 1", x.count(6), 1);
    }

    private static void setForgets() {
        LoafMemory x = new LoafMemory();
        for (int loaf = 0; loaf < 6; loaf++) {
            Texts.recipe(x, loaf, "" + loaf);
            x.ask(loaf);
        }
        D.due("six memories", x.count(0), 6);
        x.ask(1);
        D.due("set(ROOM, 6)", x.set(0, 6), 8);
        D.due("nothing is too many", x.count(0), 6);
        D.due("set(ROOM, 3)", x.set(0, 3), 6);
        D.due("three are left", x.count(0), 3);
        D.due("the last one is loaf 1", x.ofMemory(0, 0), 1);
        D.due("then loaf 5", x.ofMemory(1, 0), 5);
        D.due("then loaf 4", x.ofMemory(2, 0), 4);
        D.due("no fourth", x.ofMemory(3, 0), -1);
        D.due("set(ROOM, 16)", x.set(0, 16), 3);
        D.due("none comes back", x.count(0), 3);
    }

    private static void put() {
        LoafMemory x = new LoafMemory();
        D.due("put(0, 99)", x.put(0, 99), 0);
        D.due("put(0, 5)", x.put(0, 5), 99);
        D.due("put(11, 1)", x.put(11, 1), 0);
        D.due("put(-1, 1)", x.put(-1, 1), -1);
        D.due("put(12, 1)", x.put(12, 1), -1);
        D.due("put(12, 100): the shelf first", x.put(12, 100), -1);
        D.due("put(0, 100)", x.put(0, 100), -2);
        D.due("put(0, -1)", x.put(0, -1), -2);
        D.due("put(least, 0)", x.put(Integer.MIN_VALUE, 0), -1);
        D.due("number of 0", x.ofShelf(0, 0), 5);
        D.due("number of 11", x.ofShelf(11, 0), 1);
        D.due("three changes", x.count(4), 3);
        D.due("undo()", x.undo(), 2);
        D.due("number of 11 before", x.ofShelf(11, 0), 0);
        x.poison(0, 1);
        D.due("put on a poisoned shelf", x.put(0, 6), 5);
        D.due("it stays poisoned", x.ofShelf(0, 1), 1);
        D.due("and has the number", x.ofShelf(0, 0), 6);
    }

    private static void poison() {
        LoafMemory x = new LoafMemory();
        x.put(3, 7);
        D.due("poison(3, 1)", x.poison(3, 1), 0);
        D.due("poison(3, 1) again", x.poison(3, 1), 1);
        D.due("poisoned", x.ofShelf(3, 1), 1);
        D.due("its number stays", x.ofShelf(3, 0), 7);
        D.due("others are not", x.ofShelf(2, 1) + x.ofShelf(4, 1), 0);
        D.due("poison(11, 1)", x.poison(11, 1), 0);
        D.due("poison(3, 0)", x.poison(3, 0), 1);
        D.due("clean", x.ofShelf(3, 1), 0);
        D.due("the other one is not", x.ofShelf(11, 1), 1);
        D.due("poison(12, 0)", x.poison(12, 0), -1);
        D.due("poison(-1, 2): the shelf first", x.poison(-1, 2), -1);
        D.due("poison(0, 2)", x.poison(0, 2), -2);
        D.due("poison(0, -1)", x.poison(0, -1), -2);
        D.due("poison(32, 1)", x.poison(32, 1), -1);
        D.due("five changes", x.count(4), 5);
        D.due("undo()", x.undo(), 4);
        D.due("poisoned before", x.ofShelf(3, 1), 1);
    }

    private static void askForNoRecipe() {
        LoafMemory x = new LoafMemory();
        D.due("ask(0)", x.ask(0), 100);
        D.due("nothing is remembered", x.count(0), 0);
        D.due("nothing is baked", x.ofLoaf(0, 3), 0);
        D.due("no steps", x.count(1), 0);
        D.due("it is a change", x.count(4), 1);
        D.due("ask(6)", x.ask(6), -1);
        D.due("ask(-1)", x.ask(-1), -1);
        D.due("ask(greatest)", x.ask(Integer.MAX_VALUE), -1);
        D.due("an error is none", x.count(4), 1);
    }

    private static void askReckons() {
        LoafMemory x = new LoafMemory();
        x.put(0, 60);
        x.put(1, 70);
        String[] texts = {"(a+b)", "(a-b)", "(b-a)", "(a*b)", "{(a-a)?a:b}", "{a?a:b}", "0", "99", "(99*99)", "((a-b)-(b-a))",
            "{0?a:{1?7:b}}", "({c?1:2}+{a?10:20})", "(99+99)", "(0-99)", "(0-0)", "(50+50)", "({0?1:{0?2:3}}*l)", "{{0?0:1}?{1?5:6}:7}"};
        int[] results = {30, 90, 10, 0, 70, 60, 0, 99, 1, 80, 7, 12, 98, 1, 0, 0, 0, 5};
        int[] steps = {3, 3, 3, 3, 5, 3, 1, 1, 3, 7, 5, 7, 3, 3, 3, 3, 7, 7};
        for (int i = 0; i < texts.length; i++) {
            Texts.recipe(x, 0, texts[i]);
            D.due("ask for " + texts[i], x.ask(0), results[i]);
            D.due("steps of " + texts[i], x.ofMemory(0, 3), steps[i]);
            D.due("fresh of " + texts[i], x.fresh(0), results[i]);
        }
        D.due("steps that were made", x.count(1), 3 + 3 + 3 + 3 + 5 + 3 + 1 + 1 + 3 + 7 + 5 + 7 + 3 + 3 + 3 + 3 + 7 + 7);
        D.due("bakings", x.ofLoaf(0, 3), texts.length);
    }

    private static void askGivesAgain() {
        LoafMemory x = new LoafMemory();
        Texts.recipe(x, 0, "{a?b:c}");
        x.put(0, 1);
        x.put(1, 4);
        D.due("ask", x.ask(0), 4);
        x.put(2, 9);
        D.due("c was not looked at", x.ask(0), 4);
        D.due("given again", x.ofLoaf(0, 4), 1);
        D.due("baked once", x.ofLoaf(0, 3), 1);
        D.due("steps made", x.count(1), 3);
        D.due("steps saved", x.count(2), 3);
        D.due("uses", x.ofMemory(0, 4), 2);
        x.put(1, 5);
        D.due("b was", x.ask(0), 5);
        D.due("two memories", x.count(0), 2);
        x.put(1, 4);
        D.due("the older one fits", x.ask(0), 4);
        D.due("uses of the older one", x.ofMemory(0, 4), 3);
        D.due("uses of the other one", x.ofMemory(1, 4), 1);
        D.due("baked twice", x.ofLoaf(0, 3), 2);
        D.due("steps saved then", x.count(2), 6);
    }

    private static void askInOrder() {
        LoafMemory x = new LoafMemory();
        Texts.recipe(x, 0, "((b+a)+(b+#0))");
        Texts.recipe(x, 0, "7");
        Texts.recipe(x, 1, "((b+a)+(#0+(b+#0)))");
        x.put(0, 1);
        x.put(1, 2);
        D.due("ask(1)", x.ask(1), 19);
        D.due("loaf 0 is asked for once", x.ofLoaf(0, 3) + x.ofLoaf(0, 4), 1);
        D.due("looks", x.ofMemory(0, 2), 3);
        D.due("first b", x.look(0, 0, 0), 1);
        D.due("then a", x.look(0, 1, 0), 0);
        D.due("then #0", x.look(0, 2, 0), 20);
        D.due("no fourth", x.look(0, 3, 0), -1);
        D.due("b is 2", x.look(0, 0, 1), 2);
        D.due("a is 1", x.look(0, 1, 1), 1);
        D.due("#0 is 7", x.look(0, 2, 1), 7);
        D.due("steps with those looked at before", x.ofMemory(0, 3), 9);
        D.due("loaf 0 was used ahead of it", x.ofMemory(1, 0), 0);
        x.put(1, 3);
        D.due("b is another one", x.ask(1), 21);
        D.due("#0 was asked for by the new baking alone", x.ofLoaf(0, 4), 1);
        x.put(0, 9);
        x.put(1, 2);
        D.due("a is another one", x.ask(1), 27);
        D.due("#0 was asked for by the third baking alone", x.ofLoaf(0, 4), 2);
    }

    private static void askAsksEachTime() {
        LoafMemory x = new LoafMemory();
        Texts.recipe(x, 0, "a");
        Texts.recipe(x, 1, "(#0+b)");
        x.ask(1);
        x.put(1, 1);
        x.ask(1);
        x.put(1, 2);
        D.due("used by two memories' looks, then by the baking: steps", x.stepsFor(1), 3);
        D.due("ask(1)", x.ask(1), 2);
        D.due("#0 was used by each", x.ofLoaf(0, 4), 1 + 1 + 2 + 1);
        D.due("uses of #0", x.ofMemory(1, 4), 6);
        D.due("saved steps", x.count(2), 5);
        D.due("three memories of loaf 1", x.ofLoaf(1, 5), 3);
    }

    private static void askEndsAtPoison() {
        LoafMemory x = new LoafMemory();
        Texts.recipe(x, 0, "((a+b)*c)");
        x.put(0, 3);
        x.poison(1, 1);
        D.due("ask(0)", x.ask(0), 100);
        D.due("steps", x.ofMemory(0, 3), 2);
        D.due("looks", x.ofMemory(0, 2), 2);
        D.due("the last look is b", x.look(0, 1, 0), 1);
        D.due("its value", x.look(0, 1, 1), 100);
        Texts.recipe(x, 1, "{#0?d:e}");
        D.due("ask(1)", x.ask(1), 100);
        D.due("steps of loaf 1", x.ofMemory(0, 3), 1);
        D.due("looks of loaf 1", x.ofMemory(0, 2), 1);
        D.due("loaf 0 was given again", x.ofLoaf(0, 4), 1);
        x.put(1, 8);
        D.due("the poison's number does not matter", x.ask(1), 100);
        D.due("the memory fits", x.ofLoaf(1, 4), 1);
        x.poison(1, 0);
        D.due("clean", x.ask(0), 0);
        Texts.recipe(x, 2, "(a+#1)");
        Texts.recipe(x, 3, "(#2+#4)");
        D.due("a loaf that is not lower", x.count(7), 7);
        Texts.recipe(x, 5, "(1+#4)");
        D.due("a loaf without a recipe", x.ask(5), 100);
        D.due("it is a look", x.look(0, 0, 0), 24);
        D.due("of poison", x.look(0, 0, 1), 100);
        D.due("number and loaf are steps, the sum is none", x.ofMemory(0, 3), 2);
    }

    private static void askWithoutKeep() {
        LoafMemory x = new LoafMemory();
        Texts.recipe(x, 0, "a");
        x.poison(0, 1);
        x.set(LoafMemory.KEEP, 0);
        D.due("ask(0)", x.ask(0), 100);
        D.due("not remembered", x.count(0), 0);
        D.due("but baked", x.ofLoaf(0, 3), 1);
        D.due("with steps", x.count(1), 1);
        x.set(LoafMemory.KEEP, 1);
        D.due("ask(0) then", x.ask(0), 100);
        D.due("remembered", x.count(0), 1);
        x.set(LoafMemory.KEEP, 0);
        D.due("what is remembered stays", x.count(0), 1);
        D.due("ask(0) of it", x.ask(0), 100);
        D.due("given again", x.ofLoaf(0, 4), 1);
        x.poison(0, 0);
        D.due("a result is remembered", x.ask(0), 0);
        D.due("two memories", x.count(0), 2);
    }

    private static void askForgetsTheOldest() {
        LoafMemory x = new LoafMemory();
        Texts.recipe(x, 0, "a");
        x.set(LoafMemory.ROOM, 2);
        x.ask(0);
        x.put(0, 1);
        x.ask(0);
        x.put(0, 0);
        x.ask(0);
        x.put(0, 2);
        D.due("a third one", x.ask(0), 2);
        D.due("two are left", x.count(0), 2);
        D.due("the third", x.ofMemory(0, 1), 2);
        D.due("the first, which was used after the second", x.ofMemory(1, 1), 0);
        x.put(0, 1);
        x.ask(0);
        D.due("the second was forgotten", x.ofLoaf(0, 3), 4);
        Texts.recipe(x, 1, "a");
        x.set(LoafMemory.ROOM, 16);
        for (int number = 10; number < 26; number++) {
            x.put(0, number);
            x.ask(1);
        }
        D.due("sixteen", x.count(0), 16);
        D.due("all of loaf 1", x.ofLoaf(1, 5), 16);
        D.due("none of loaf 0", x.ofLoaf(0, 5), 0);
        D.due("the oldest", x.ofMemory(15, 1), 10);
        x.put(0, 10);
        D.due("the oldest of sixteen fits", x.fits(1), 15);
        D.due("ask for it", x.ask(1), 10);
        D.due("it was given again", x.ofLoaf(1, 4), 1);
        D.due("and is the last used now", x.ofMemory(0, 4), 2);
    }

    private static void askLeavesOutWhatIsForgottenMeanwhile() {
        LoafMemory x = new LoafMemory();
        Texts.recipe(x, 0, "a");
        Texts.recipe(x, 1, "(#0*0)");
        x.set(LoafMemory.ROOM, 1);
        D.due("ask(1)", x.ask(1), 0);
        D.due("only loaf 1 is remembered", x.ofMemory(0, 0), 1);
        D.due("ask(1) again", x.ask(1), 0);
        D.due("its memory went when loaf 0 came", x.ofLoaf(1, 3), 2);
        D.due("loaf 0 was baked by the look, then used by the baking", x.ofLoaf(0, 3), 2);
        D.due("used", x.ofLoaf(0, 4), 1);

        LoafMemory y = new LoafMemory();
        Texts.recipe(y, 0, "a");
        Texts.recipe(y, 1, "b");
        Texts.recipe(y, 2, "(#0+#1)");
        y.set(LoafMemory.ROOM, 2);
        D.due("ask(2)", y.ask(2), 0);
        D.due("loaf 2, then loaf 1", y.ofMemory(0, 0) * 10 + y.ofMemory(1, 0), 21);
        D.due("the look at #0 bakes and forgets loaf 1, the one at #1 forgets loaf 2", y.ask(2), 0);
        D.due("loaf 2 was baked again", y.ofLoaf(2, 3), 2);
        D.due("loaf 0 was baked again", y.ofLoaf(0, 3), 2);
        D.due("loaf 1 was baked again", y.ofLoaf(1, 3), 2);
        D.due("loaf 0 was given again", y.ofLoaf(0, 4), 1);
        D.due("loaf 1 was given again", y.ofLoaf(1, 4), 1);

        LoafMemory z = new LoafMemory();
        Texts.recipe(z, 0, "a");
        Texts.recipe(z, 1, "b");
        Texts.recipe(z, 2, "(#0+#1)");
        z.set(LoafMemory.ROOM, 1);
        z.ask(2);
        D.due("nothing more of it is looked at", z.ask(2), 0);
        D.due("loaf 0 by the look, given again in the baking", z.ofLoaf(0, 3) * 10 + z.ofLoaf(0, 4), 21);
        D.due("loaf 1 in the baking alone", z.ofLoaf(1, 3) * 10 + z.ofLoaf(1, 4), 20);
    }

    private static void forget() {
        LoafMemory x = new LoafMemory();
        D.due("forget(0) of none", x.forget(0), -1);
        for (int loaf = 0; loaf < 4; loaf++) {
            Texts.recipe(x, loaf, "" + loaf);
            x.ask(loaf);
        }
        D.due("forget(4)", x.forget(4), -1);
        D.due("forget(-1)", x.forget(-1), -1);
        D.due("forget(1)", x.forget(1), 3);
        D.due("the last one", x.ofMemory(0, 0), 3);
        D.due("the second", x.ofMemory(1, 0), 1);
        D.due("the third", x.ofMemory(2, 0), 0);
        D.due("forget(2)", x.forget(2), 2);
        D.due("forget(0)", x.forget(0), 1);
        D.due("loaf 1 is left", x.ofMemory(0, 0), 1);
        D.due("forget(0) again", x.forget(0), 0);
        D.due("forget(0) of none again", x.forget(0), -1);
        D.due("undo()", x.undo(), 5);
        D.due("it is back", x.ofMemory(0, 0), 1);
        D.due("it is given again", x.ask(1), 1);
        D.due("without baking", x.ofLoaf(1, 3), 1);
    }
}
