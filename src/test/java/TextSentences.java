/** Promises 7 to 10: a test for each sentence. */
final class TextSentences {
    private final Sentences s;

    TextSentences(Sentences s) {
        this.s = s;
    }

    void run() {
        type();
        wipe();
        fault();
        recipe();
        recipeParts();
        recipeErrors();
    }

    private void type() {
        s.section("Promise 7: type");
        s.says("Appends characters to the pad.");
        LoafMemory x = new LoafMemory();
        x.type(Texts.packed("(1"));
        x.type(Texts.packed("2-"));
        x.type(Texts.packed("3)"));
        x.recipe(0);
        s.due("in their order", x.ask(0), 9);
        x.type('a');
        s.due("it is no change", x.count(4), 2);
        s.says("They are given as a number: its lowest 8 bits are the last character, the next 8 bits the one before, and so on;");
        s.due("1 character", x.type(0x2aL), 2);
        x.wipe();
        s.due("8 characters", x.type(0x2839382d3132292bL), 8);
        s.due("the last one is + and cannot stand", x.fault(), 7);
        x.wipe();
        x.type(0x2839382d313229L);
        x.recipe(0);
        s.due("(98-12)", x.ask(0), 86);
        s.says("8 bits that are 0 mean that there are no more characters, and everything above them has to be 0, too.");
        s.due("all bits are 0", x.type(0), -2);
        s.due("0 below a character", x.type(0x6100L), -2);
        s.due("0 between characters", x.type(0x610061L), -2);
        s.due("a single bit above", x.type(0x8000000000000061L), -2);
        s.due("a single bit right above", x.type(0x10061L), -2);
        s.due("0 below seven characters", x.type(0x6161616161616100L), -2);
        s.due("7 characters and 0", x.type(0x61616161616161L), 7);
        s.due("8 characters, no 0", x.type(0x6161616161616161L), 15);
        s.says("1 to 8 characters");
        for (int length = 1; length <= 8; length++) {
            x.wipe();
            s.due(length + " characters", x.type(Texts.packed("abcdefgh".substring(0, length))), length);
        }
        s.due("none", x.type(0), -2);
        s.says("Returns the length of the pad then;");
        x.wipe();
        int[] lengths = {8, 16, 24, 32, 40, 48, 56};
        for (int length : lengths) {
            s.due("8 more", x.type(Texts.packed("########")), length);
        }
        s.due("4 more", x.type(Texts.packed("####")), 60);
        s.due("count(3)", x.count(3), 60);
        typeErrors();
    }

    private void typeErrors() {
        s.says("BAD_VALUE if there is no character, a code is not 33 to 126, or a bit above 8 bits that are 0 is not 0;");
        LoafMemory x = new LoafMemory();
        s.due("no character", x.type(0), -2);
        for (int code : new int[] {1, 9, 31, 32, 127, 128, 255}) {
            s.due("code " + code, x.type(code), -2);
            for (int above = 0; above < 8; above++) {
                long text = 0x6161616161616161L ^ (long) (0x61 ^ code) << (8 * above);
                s.due("code " + code + " as character " + above, x.type(text), -2);
            }
        }
        for (int code = 33; code < 127; code++) {
            s.due("code " + code, x.type(code), 1);
            x.wipe();
        }
        s.due("least", x.type(Long.MIN_VALUE), -2);
        s.due("greatest", x.type(Long.MAX_VALUE), -2);
        s.due("-1", x.type(-1), -2);
        s.due("a bit above 8 bits that are 0", x.type(0x100000000000021L), -2);
        s.says("TOO_MANY if the pad would be longer than 60.");
        LoafMemory y = new LoafMemory();
        for (int i = 0; i < 7; i++) {
            y.type(Texts.packed("aaaaaaaa"));
        }
        s.due("5 more on 56", y.type(Texts.packed("aaaaa")), -4);
        s.due("8 more on 56", y.type(Texts.packed("aaaaaaaa")), -4);
        s.due("nothing was appended", y.count(3), 56);
        s.due("3 more on 56", y.type(Texts.packed("aaa")), 59);
        s.due("2 more on 59", y.type(Texts.packed("aa")), -4);
        s.due("1 more on 59", y.type('a'), 60);
        s.due("1 more on 60", y.type('a'), -4);
        s.due("a bad one on 60", y.type(32), -2);
        s.due("an emptied pad has room", y.wipe() + y.type('a'), 61);
    }

    private void wipe() {
        s.section("Promise 8: wipe");
        s.says("Empties the pad, and returns the length that it had.");
        LoafMemory x = new LoafMemory();
        s.due("of an empty pad", x.wipe(), 0);
        x.type('a');
        s.due("of one", x.wipe(), 1);
        s.due("it is empty", x.count(3), 0);
        s.due("of an empty pad again", x.wipe(), 0);
        s.due("fault of an empty pad", x.fault(), 0);
        Texts.onPad(x, "(".repeat(60));
        s.due("of a full pad", x.wipe(), 60);
        s.due("it is no change", x.count(4), 0);
        x.type('b');
        s.due("nothing of it is left", x.recipe(0), 1);
        s.due("but what was typed then", x.ofLoaf(0, 1), 2);
    }

    private void fault() {
        s.section("Promise 9: fault");
        s.says("Returns the fault of the pad, NONE if there is none.");
        LoafMemory x = new LoafMemory();
        s.due("of an empty pad", x.fault(), 0);
        x.type('(');
        s.due("of (", x.fault(), 1);
        x.type('a');
        s.due("of (a", x.fault(), 2);
        x.type('-');
        x.type('9');
        s.due("of (a-9", x.fault(), 4);
        x.type(')');
        s.due("of (a-9)", x.fault(), -6);
        s.due("again", x.fault(), -6);
        s.due("the pad stays", x.count(3), 5);
        x.type(')');
        s.due("of (a-9))", x.fault(), 5);
        s.due("it is no change", x.count(4), 0);
        s.due("a loaf that no recipe may name has no fault", Texts.fault(x, "#4"), -6);
    }

    private void recipe() {
        s.section("Promise 10: recipe");
        s.says("Reads the pad as the recipe of a loaf, in place of the one that it has, and empties the pad. This is a change.");
        LoafMemory x = new LoafMemory();
        Texts.onPad(x, "(a+b)");
        x.recipe(0);
        s.due("the pad is empty", x.count(3), 0);
        s.due("recipe(0) again", x.recipe(0), -3);
        s.due("the loaf has it", x.ofLoaf(0, 1), 3);
        s.due("no other loaf", x.count(7), 1);
        x.put(0, 4);
        s.due("ask", x.ask(0), 4);
        Texts.recipe(x, 0, "9");
        s.due("in place of the other one", x.ask(0), 9);
        s.due("shelves of it", x.ofLoaf(0, 1), 0);
        s.due("recipe, ask, recipe, ask, put", x.count(4), 5);
        s.due("undo()", x.undo(), 4);
        s.due("undo() of recipe", x.undo(), 3);
        s.due("the other one is back", x.ofLoaf(0, 1), 3);
        s.due("its memory, too", x.fits(0), 0);
        s.due("the pad is not", x.count(3), 0);
        Texts.recipe(x, 0, "(a+b)");
        s.due("the same recipe is a change", x.count(4), 4);
        for (int i = 0; i < 4; i++) {
            Texts.recipe(x, i, "" + i);
        }
        s.due("with a full history", x.count(4), 6);
        s.due("undo() of the last one", x.undo(), 5);
        s.due("loaf 3 has none", x.count(7), 7);
    }

    private void recipeParts() {
        s.says("Returns how many shelves, loaves, numbers, sums, differences, products and \"{..}\" it has;");
        String[] texts = {"a", "#0", "0", "99", "(a+a)", "(a-1)", "(#0*#0)", "{a?a:a}", "{{1?2:3}?(a+b):#4}", "((1+2)-(3*4))",
            "(10+((((((((((((10+1)+1)+1)+1)+1)+1)+1)+1)+1)+1)+1)+1))"};
        int[] parts = {1, 1, 1, 1, 3, 3, 3, 4, 9, 7, 27};
        LoafMemory x = new LoafMemory();
        for (int i = 0; i < texts.length; i++) {
            s.due(texts[i], Texts.recipe(x, 5, texts[i]), parts[i]);
        }
    }

    private void recipeErrors() {
        s.says("NO_SUCH if there is no such loaf;");
        LoafMemory x = new LoafMemory();
        for (int loaf : new int[] {-1, 6, 31, 32, Integer.MIN_VALUE, Integer.MAX_VALUE}) {
            s.due("recipe(" + loaf + ") of a right pad", Texts.recipe(x, loaf, "a"), -1);
            s.due("recipe(" + loaf + ") of a wrong pad", Texts.recipe(x, loaf, "m"), -1);
            s.due("recipe(" + loaf + ") that names loaves", Texts.recipe(x, loaf, "#4"), -1);
        }
        s.says("BAD_TEXT if the pad has a fault;");
        x.wipe();
        s.due("of an empty pad", x.recipe(5), -3);
        for (String text : new String[] {"?", "(", "(a", "aa", "100", "00", "#5", "(a+b))", "(#4+"}) {
            s.due("of " + text, Texts.recipe(x, 0, text), -3);
            s.due("the pad stays, " + text, x.count(3), text.length());
        }
        s.says("NOT_POSSIBLE if it names a loaf that is not lower.");
        s.due("its own, the first", Texts.recipe(x, 0, "#0"), -5);
        s.due("its own, the last that can be", Texts.recipe(x, 4, "#4"), -5);
        s.due("the next higher one", Texts.recipe(x, 3, "#4"), -5);
        s.due("a much higher one", Texts.recipe(x, 0, "#4"), -5);
        s.due("one of many", Texts.recipe(x, 2, "{a?(#0+#1):#2}"), -5);
        s.due("the pad stays", x.count(3), 14);
        s.due("the next lower one", Texts.recipe(x, 4, "#3"), 1);
        s.due("the last loaf may name all", Texts.recipe(x, 5, "{#0?(#1+#2):(#3+#4)}"), 8);
        s.due("two recipes", x.count(7), 0b110000);
    }
}
