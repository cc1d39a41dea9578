/** Promises 11 to 15: ofShelf, ofLoaf, ofMemory, look, count. */
public final class WhatIsTest {
    private static final Due D = new Due();

    public static void main(String[] args) {
        ofShelf();
        ofLoaf();
        ofMemory();
        look();
        count();
        errorsInOrder();
        D.end();
    }

    private static void ofShelf() {
        LoafMemory x = new LoafMemory();
        x.put(5, 42);
        x.poison(6, 1);
        Texts.recipe(x, 0, "(f+0)");
        Texts.recipe(x, 3, "{f?#0:l}");
        Texts.recipe(x, 5, "(#3+#0)");
        D.due("number of f", x.ofShelf(5, 0), 42);
        D.due("f is clean", x.ofShelf(5, 1), 0);
        D.due("g is poisoned", x.ofShelf(6, 1), 1);
        D.due("f is named by 0 and 3", x.ofShelf(5, 2), 0b1001);
        D.due("l is named by 3", x.ofShelf(11, 2), 0b1000);
        D.due("g is named by none", x.ofShelf(6, 2), 0);
        Texts.recipe(x, 3, "l");
        D.due("f is named by 0", x.ofShelf(5, 2), 1);
    }

    private static void ofLoaf() {
        LoafMemory x = new LoafMemory();
        Texts.recipe(x, 1, "(a+(c*l))");
        Texts.recipe(x, 5, "{#1?(#0-#4):(#1+b)}");
        D.due("loaf 1 has a recipe", x.ofLoaf(1, 0), 1);
        D.due("loaf 0 has none", x.ofLoaf(0, 0), 0);
        D.due("shelves of 1", x.ofLoaf(1, 1), 0b100000000101);
        D.due("loaves of 1", x.ofLoaf(1, 2), 0);
        D.due("shelves of 5", x.ofLoaf(5, 1), 2);
        D.due("loaves of 5", x.ofLoaf(5, 2), 0b10011);
        x.ask(5);
        x.ask(5);
        x.ask(1);
        D.due("loaf 5 was baked", x.ofLoaf(5, 3), 1);
        D.due("loaf 5 was given again", x.ofLoaf(5, 4), 1);
        D.due("loaf 1 was baked", x.ofLoaf(1, 3), 1);
        D.due("loaf 1 was given again, by 5's memory and alone", x.ofLoaf(1, 4), 2);
        D.due("loaf 0 was not baked", x.ofLoaf(0, 3), 0);
        x.put(0, 1);
        x.ask(1);
        D.due("memories of 1", x.ofLoaf(1, 5), 2);
        D.due("memories of 5", x.ofLoaf(5, 5), 1);
        D.due("memories of 0", x.ofLoaf(0, 5), 0);
    }

    private static void ofMemory() {
        LoafMemory x = new LoafMemory();
        Texts.recipe(x, 2, "{a?b:(c+c)}");
        Texts.recipe(x, 4, "9");
        x.put(2, 8);
        x.ask(2);
        x.ask(4);
        x.ask(2);
        x.ask(2);
        D.due("loaf of 0", x.ofMemory(0, 0), 2);
        D.due("result of 0", x.ofMemory(0, 1), 16);
        D.due("looks of 0", x.ofMemory(0, 2), 2);
        D.due("steps of 0", x.ofMemory(0, 3), 5);
        D.due("uses of 0", x.ofMemory(0, 4), 3);
        D.due("loaf of 1", x.ofMemory(1, 0), 4);
        D.due("result of 1", x.ofMemory(1, 1), 9);
        D.due("looks of 1", x.ofMemory(1, 2), 0);
        D.due("steps of 1", x.ofMemory(1, 3), 1);
        D.due("uses of 1", x.ofMemory(1, 4), 1);
        D.due("no memory 2", x.ofMemory(2, 0), -1);
    }

    private static void look() {
        LoafMemory x = new LoafMemory();
        Texts.recipe(x, 3, "l");
        Texts.recipe(x, 4, "(#3*{a?b:l})");
        x.put(11, 7);
        x.ask(4);
        int[][] wanted = {{23, 7}, {0, 0}, {11, 7}};
        for (int i = 0; i < 3; i++) {
            D.due("look " + i, x.look(0, i, 0), wanted[i][0]);
            D.due("value " + i, x.look(0, i, 1), wanted[i][1]);
        }
        D.due("no look 3", x.look(0, 3, 0), -1);
        D.due("no look -1", x.look(0, -1, 0), -1);
        D.due("look at l of loaf 3", x.look(1, 0, 0), 11);
        D.due("no look 1 of loaf 3", x.look(1, 1, 0), -1);
        x.put(11, 8);
        D.due("a memory keeps the value that it was", x.look(0, 2, 1), 7);
        String all = "(a+(b+(c+(d+(e+(f+(g+(h+(i+(j+(k+(l+(#0+(#1+#2))))))))))))))";
        for (int loaf = 0; loaf < 3; loaf++) {
            Texts.recipe(x, loaf, "1");
        }
        D.due("a text of 60", all.length(), 60);
        D.due("fifteen looks", Texts.recipe(x, 3, all), 29);
        D.due("their sum", x.ask(3), 11);
        D.due("how many", x.ofMemory(0, 2), 15);
        D.due("the last one", x.look(0, 14, 0), 22);
        D.due("its value", x.look(0, 14, 1), 1);
    }

    private static void count() {
        LoafMemory x = new LoafMemory();
        Texts.recipe(x, 0, "(a+b)");
        Texts.recipe(x, 2, "(#0*2)");
        Texts.onPad(x, "abc");
        x.ask(2);
        x.ask(2);
        x.set(0, 5);
        x.set(1, 0);
        D.due("memories", x.count(0), 2);
        D.due("steps made", x.count(1), 6);
        D.due("steps saved", x.count(2), 6);
        D.due("length of the pad", x.count(3), 3);
        D.due("changes", x.count(4), 6);
        D.due("room", x.count(5), 5);
        D.due("keep", x.count(6), 0);
        D.due("loaves with a recipe", x.count(7), 5);
        D.due("count(8)", x.count(8), -2);
        D.due("count(-1)", x.count(-1), -2);
        D.due("count(greatest)", x.count(Integer.MAX_VALUE), -2);
        x.put(0, 1);
        D.due("six changes at most", x.count(4), 6);
    }

    private static void errorsInOrder() {
        LoafMemory x = new LoafMemory();
        D.due("ofShelf(12, 3)", x.ofShelf(12, 3), -1);
        D.due("ofShelf(-1, 0)", x.ofShelf(-1, 0), -1);
        D.due("ofShelf(0, 3)", x.ofShelf(0, 3), -2);
        D.due("ofShelf(0, -1)", x.ofShelf(0, -1), -2);
        D.due("ofLoaf(6, 6)", x.ofLoaf(6, 6), -1);
        D.due("ofLoaf(-1, 0)", x.ofLoaf(-1, 0), -1);
        D.due("ofLoaf(5, 6)", x.ofLoaf(5, 6), -2);
        D.due("ofLoaf(5, -1)", x.ofLoaf(5, -1), -2);
        D.due("ofMemory(0, 0)", x.ofMemory(0, 0), -1);
        D.due("ofMemory(0, 5)", x.ofMemory(0, 5), -1);
        D.due("look(0, 0, 0)", x.look(0, 0, 0), -1);
        Texts.recipe(x, 0, "a");
        x.ask(0);
        D.due("ofMemory(0, 5) of one", x.ofMemory(0, 5), -2);
        D.due("ofMemory(0, -1)", x.ofMemory(0, -1), -2);
        D.due("ofMemory(-1, 0)", x.ofMemory(-1, 0), -1);
        D.due("ofMemory(1, 9)", x.ofMemory(1, 9), -1);
        D.due("look(0, 0, 2)", x.look(0, 0, 2), -2);
        D.due("look(0, 0, -1)", x.look(0, 0, -1), -2);
        D.due("look(0, 1, 2)", x.look(0, 1, 2), -1);
        D.due("look(1, 0, 2)", x.look(1, 0, 2), -1);
        D.due("look(-1, 0, 0)", x.look(-1, 0, 0), -1);
    }
}
