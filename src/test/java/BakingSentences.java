/** Section "Terms", what it means to bake a loaf: a test for each sentence. */
final class BakingSentences {
    private final Sentences s;

    BakingSentences(Sentences s) {
        this.s = s;
    }

    void run() {
        s.section("Terms");
        fromLeftToRight();
        leftOverBy100();
        choice();
        namedLoaf();
        lookedAtBefore();
        endsAtPoison();
        noRecipe();
        whatWasLookedAt();
        stepsOfLooks();
        stepsOfOperations();
        stepsOfOthers();
    }

    private void fromLeftToRight() {
        s.says("To bake a loaf means to reckon its recipe, from left to right: a shelf is its number,");
        LoafMemory x = new LoafMemory();
        Texts.recipe(x, 0, "a");
        s.due("the least number", x.ask(0), 0);
        x.put(0, 99);
        s.due("the greatest number", x.ask(0), 99);
        Texts.recipe(x, 0, "((c-b)-(a-(l+d)))");
        x.put(2, 50);
        x.put(1, 5);
        x.put(11, 20);
        x.put(3, 30);
        s.due("50 - 5 - (99 - 20 - 30)", x.ask(0), 96);
        int[] order = {2, 1, 0, 11, 3};
        for (int look = 0; look < order.length; look++) {
            s.due("look " + look, x.look(0, look, 0), order[look]);
        }
    }

    private void leftOverBy100() {
        s.says("a sum, a difference or a product is left over by 100 (a difference below 0 is 100 more),");
        result("(49+50)", 99);
        result("(50+50)", 0);
        result("(50+51)", 1);
        result("(99+99)", 98);
        result("(0+0)", 0);
        result("(7-7)", 0);
        result("(99-0)", 99);
        result("(0-1)", 99);
        result("(0-99)", 1);
        result("(98-99)", 99);
        result("(9*11)", 99);
        result("(10*10)", 0);
        result("(99*99)", 1);
        result("(99*0)", 0);
        result("((0-1)*(0-1))", 1);
        result("((99*99)-(99+99))", 3);
        result("((50+50)-1)", 99);
    }

    private void choice() {
        s.says("and of \"{x?y:z}\" x is reckoned, then y if x is not 0, otherwise z (the other one is not looked at).");
        result("{0?7:8}", 8);
        result("{1?7:8}", 7);
        result("{99?7:8}", 7);
        result("{(50+50)?7:8}", 8);
        result("{(0-1)?7:8}", 7);
        result("{0?7:{0?8:9}}", 9);
        result("{{0?1:0}?7:8}", 8);
        result("{1?{1?7:8}:9}", 7);
        result("({1?7:8}+{0?10:20})", 27);
        LoafMemory x = new LoafMemory();
        Texts.recipe(x, 0, "l");
        Texts.recipe(x, 1, "{a?b:#0}");
        x.put(0, 1);
        x.put(1, 5);
        x.poison(11, 1);
        s.due("poison in the other one", x.ask(1), 5);
        s.due("looks", x.ofMemory(0, 2), 2);
        s.due("first x", x.look(0, 0, 0), 0);
        s.due("then y", x.look(0, 1, 0), 1);
        s.due("the other one is not asked for", x.ofLoaf(0, 3), 0);
        x.put(0, 0);
        x.poison(11, 0);
        x.poison(1, 1);
        s.due("poison in y, with x 0", x.ask(1), 0);
        s.due("looks with x 0", x.ofMemory(0, 2), 2);
        s.due("then z", x.look(0, 1, 0), 20);
    }

    private void namedLoaf() {
        s.says("A loaf that is named is asked for (see below), and is its result.");
        LoafMemory x = new LoafMemory();
        Texts.recipe(x, 0, "a");
        Texts.recipe(x, 4, "(#0*2)");
        Texts.recipe(x, 5, "(#4+#0)");
        x.put(0, 40);
        s.due("ask(5)", x.ask(5), 20);
        s.due("each is remembered", x.count(0), 3);
        s.due("loaf 4 was baked", x.ofLoaf(4, 3), 1);
        s.due("loaf 0 was baked for the first one that asked", x.ofLoaf(0, 3), 1);
        s.due("and given again to the second one", x.ofLoaf(0, 4), 1);
        Texts.recipe(x, 5, "(1+#4)");
        s.due("ask(5) of the new recipe", x.ask(5), 81);
        s.due("loaf 4 was given again", x.ofLoaf(4, 4), 1);
    }

    private void lookedAtBefore() {
        s.says("A shelf or a loaf that was looked at before in this baking has the value that it had then (the loaf is not asked for again).");
        LoafMemory x = new LoafMemory();
        Texts.recipe(x, 0, "a");
        Texts.recipe(x, 1, "b");
        Texts.recipe(x, 2, "((#0+a)+(#1+(a+#0)))");
        x.put(0, 3);
        x.put(1, 10);
        x.set(LoafMemory.ROOM, 1);
        s.due("ask(2)", x.ask(2), 22);
        s.due("loaf 0 was baked once, though it was forgotten when loaf 1 came", x.ofLoaf(0, 3), 1);
        s.due("nor was it given again", x.ofLoaf(0, 4), 0);
        s.due("loaf 1 was baked once", x.ofLoaf(1, 3), 1);
        s.due("three looks", x.ofMemory(0, 2), 3);
        Texts.recipe(x, 3, "(#0+#0)");
        s.due("another baking asks for it again", x.ask(3), 6);
        s.due("bakings of loaf 0", x.ofLoaf(0, 3), 2);
    }

    private void endsAtPoison() {
        s.says("As soon as a poisoned shelf is looked at, or a loaf whose result is POISON, the baking ends, and the result is POISON.");
        LoafMemory x = new LoafMemory();
        Texts.recipe(x, 0, "l");
        x.poison(1, 1);
        x.put(1, 7);
        String[] poisoned = {"b", "(a+b)", "(b+a)", "(0*b)", "{b?1:2}", "{1?b:2}", "{0?1:b}", "((a+(b+c))+#0)", "(b+#0)", "{b?#0:#0}"};
        for (String text : poisoned) {
            Texts.recipe(x, 1, text);
            s.due("ask for " + text, x.ask(1), 100);
            int last = x.ofMemory(0, 2) - 1;
            s.due("last look of " + text, x.look(0, last, 0), 1);
            s.due("looks of " + text, last, text.contains("a") && text.indexOf('a') < text.indexOf('b') ? 1 : 0);
        }
        s.due("what stands behind the poison is not asked for", x.ofLoaf(0, 3), 0);
        Texts.recipe(x, 1, "{0?b:1}");
        s.due("a poisoned shelf that is not looked at", x.ask(1), 1);
        Texts.recipe(x, 1, "b");
        Texts.recipe(x, 2, "(c+(#1+(a+#0)))");
        s.due("a loaf whose result is POISON", x.ask(2), 100);
        s.due("looks of it", x.ofMemory(0, 2), 2);
        s.due("the last one of it", x.look(0, 1, 0), 21);
        s.due("nothing behind it is asked for", x.ofLoaf(0, 3), 0);
    }

    private void noRecipe() {
        s.says("A loaf without a recipe is POISON; it is not baked.");
        LoafMemory x = new LoafMemory();
        s.due("ask(5)", x.ask(5), 100);
        s.due("bakings of 5", x.ofLoaf(5, 3), 0);
        Texts.recipe(x, 5, "(a+#4)");
        s.due("ask(5) that names one", x.ask(5), 100);
        s.due("bakings of 4", x.ofLoaf(4, 3), 0);
        s.due("bakings of 5", x.ofLoaf(5, 3), 1);
        s.due("memories of 4", x.ofLoaf(4, 5), 0);
        s.due("steps", x.count(1), 2);
        s.due("fresh(4)", x.fresh(4), 100);
    }

    private void whatWasLookedAt() {
        s.says("What was looked at are the shelves and loaves whose value was taken in this baking, in the order of their first times, each with its "
            + "value (POISON for the one by which it ended).");
        LoafMemory x = new LoafMemory();
        Texts.recipe(x, 0, "7");
        s.due("ask(0)", x.ask(0), 7);
        s.due("a number is no look", x.ofMemory(0, 2), 0);
        Texts.recipe(x, 1, "(c+(a+(c+(#0+(a+(#0+b))))))");
        x.put(2, 1);
        x.put(0, 2);
        x.put(1, 99);
        s.due("ask(1)", x.ask(1), 19);
        int[][] looks = {{2, 1}, {0, 2}, {20, 7}, {1, 99}};
        looks(x, looks);
        x.poison(1, 1);
        s.due("ask(1) with b poisoned", x.ask(1), 100);
        looks[3][1] = 100;
        looks(x, looks);
        Texts.recipe(x, 4, "(c+#3)");
        s.due("ask(4) of a loaf without a recipe", x.ask(4), 100);
        looks(x, new int[][] {{2, 1}, {23, 100}});
        Texts.recipe(x, 5, "(l+(k+(j+(i+(h+(g+(f+(e+(d+(c+(a+(#0+(#4+#1)))))))))))))");
        s.due("ask(5) of many", x.ask(5), 100);
        looks(x, new int[][] {{11, 0}, {10, 0}, {9, 0}, {8, 0}, {7, 0}, {6, 0}, {5, 0}, {4, 0}, {3, 0}, {2, 1}, {0, 2}, {20, 7}, {24, 100}});
    }

    private void looks(LoafMemory x, int[][] looks) {
        s.due("looks", x.ofMemory(0, 2), looks.length);
        for (int look = 0; look < looks.length; look++) {
            s.due("look " + look, x.look(0, look, 0), looks[look][0]);
            s.due("value of look " + look, x.look(0, look, 1), looks[look][1]);
        }
        s.due("no look more", x.look(0, looks.length, 0), -1);
    }

    private void stepsOfLooks() {
        s.says("The steps of a baking are: each time that a shelf, a loaf or a number is reckoned (also one that was looked at before, also one by "
            + "which the baking ends),");
        steps("7", 1);
        steps("a", 1);
        steps("l", 1);
        steps("#0", 1);
        steps("#3", 1);
        steps("(a+a)", 3);
        steps("(#0+#0)", 3);
        steps("((a+a)+(a+a))", 7);
        steps("(1+l)", 2);
        steps("(a+(a+(a+l)))", 4);
        steps("(#0+#3)", 2);
    }

    private void stepsOfOperations() {
        s.says("each sum, difference and product when both its recipes have been reckoned, and each \"{..}\" when x has been.");
        steps("(a+b)", 3);
        steps("(a-b)", 3);
        steps("(a*b)", 3);
        steps("((a+b)*(a-b))", 7);
        steps("{a?b:c}", 3);
        steps("{1?b:c}", 3);
        steps("{(a+1)?b:c}", 5);
        steps("{{1?2:3}?4:5}", 5);
        steps("(l+b)", 1);
        steps("(b+l)", 2);
        steps("((a+b)-l)", 4);
        steps("{l?b:c}", 1);
        steps("{1?l:c}", 3);
        steps("{0?1:(a+l)}", 4);
        steps("{(a+l)?1:2}", 2);
    }

    private void stepsOfOthers() {
        s.says("(Steps of loaves that are asked for are theirs.)");
        LoafMemory x = new LoafMemory();
        Texts.recipe(x, 0, "((a+b)*c)");
        Texts.recipe(x, 1, "(#0+1)");
        x.ask(1);
        s.due("steps of loaf 1", x.ofMemory(0, 3), 3);
        s.due("steps of loaf 0", x.ofMemory(1, 3), 5);
        s.due("steps in all", x.count(1), 8);
        x.poison(0, 1);
        x.ask(1);
        s.due("steps of loaf 1 with poison", x.ofMemory(0, 3), 1);
        s.due("steps of loaf 0 with poison", x.ofMemory(1, 3), 1);
    }

    private void result(String text, int result) {
        LoafMemory x = new LoafMemory();
        Texts.recipe(x, 0, text);
        s.due("ask for " + text, x.ask(0), result);
        s.due("fresh of " + text, x.fresh(0), result);
    }

    /** Steps of a text as recipe of loaf 4; shelf l is poisoned, loaf 0 is 5 in one step, loaf 3 has no recipe. */
    private void steps(String text, int steps) {
        LoafMemory x = new LoafMemory();
        x.poison(11, 1);
        Texts.recipe(x, 0, "5");
        Texts.recipe(x, 4, text);
        x.ask(4);
        s.due("steps of " + text, x.ofMemory(0, 3), steps);
        s.due("steps that were made for " + text, x.count(1), steps + x.ofLoaf(0, 3));
    }
}
