/** Promises 7 to 10: type, wipe, fault, recipe. */
public final class TextTest {
    private static final Due D = new Due();

    public static void main(String[] args) {
        type();
        typeTooMany();
        wipe();
        fault();
        faultOfLongTexts();
        recipe();
        recipeErrors();
        recipeForgets();
        D.end();
    }

    private static void type() {
        LoafMemory x = new LoafMemory();
        D.due("type(0)", x.type(0), -2);
        D.due("a code of 32", x.type(32), -2);
        D.due("a code of 127", x.type(127), -2);
        D.due("a code of 255", x.type(255), -2);
        D.due("-1", x.type(-1L), -2);
        D.due("least", x.type(Long.MIN_VALUE), -2);
        D.due("greatest", x.type(Long.MAX_VALUE), -2);
        D.due("no last character", x.type(0x6100L), -2);
        D.due("a bit above 8 that are 0", x.type(0x610061L), -2);
        D.due("the highest bit above 8 that are 0", x.type(0x8000000000000061L), -2);
        D.due("a bad code above good ones", x.type(0x8061616161616161L), -2);
        D.due("a bad code in the midst", x.type(0x61612061L), -2);
        D.due("nothing was typed", x.count(3), 0);
        D.due("code 33", x.type(33), 1);
        D.due("code 126", x.type(126), 2);
        D.due("eight characters", x.type(0x7e7e7e7e7e7e7e7eL), 10);
        D.due("it is no change", x.count(4), 0);
        x.wipe();
        D.due("(a+b", x.type(Texts.packed("(a-b")), 4);
        D.due(")", x.type(Texts.packed(")")), 5);
        D.due("recipe", x.recipe(0), 3);
        x.put(0, 5);
        D.due("the highest is the first character", x.ask(0), 5);
    }

    private static void typeTooMany() {
        LoafMemory x = new LoafMemory();
        for (int i = 1; i <= 7; i++) {
            D.due("8 more", x.type(Texts.packed("########")), 8 * i);
        }
        D.due("5 more are too many", x.type(Texts.packed("#####")), -4);
        D.due("a bad one is named first", x.type(Texts.packed("#### ####")), -2);
        D.due("nothing was appended", x.count(3), 56);
        D.due("4 more", x.type(Texts.packed("####")), 60);
        D.due("1 more is too many", x.type(Texts.packed("#")), -4);
        D.due("0 more is bad", x.type(0), -2);
        D.due("60 are on the pad", x.wipe(), 60);
        D.due("an emptied pad has room", x.type(Texts.packed("12345678")), 8);
    }

    private static void wipe() {
        LoafMemory x = new LoafMemory();
        D.due("wipe() of nothing", x.wipe(), 0);
        x.type(Texts.packed("abc"));
        D.due("wipe()", x.wipe(), 3);
        D.due("nothing is left", x.count(3), 0);
        D.due("wipe() again", x.wipe(), 0);
        D.due("it is no change", x.count(4), 0);
    }

    private static void fault() {
        LoafMemory x = new LoafMemory();
        String[] right = {"a", "l", "#0", "#4", "0", "9", "10", "99", "(a+b)", "(a-1)", "(#1*0)", "{a?b:c}", "{(a+1)?{b?#0:2}:((3-4)*5)}",
            "((((1+2)+3)+4)+5)", "(1+(2+(3+(4+5))))", "{{a?b:c}?{a?b:c}:{a?b:c}}"};
        for (String text : right) {
            D.due("fault of " + text, Texts.fault(x, text), -6);
        }
        String[] wrong = {"", "m", "A", "`", "?", ")", "+", "ab", "a+b", "#", "#5", "#a", "##", "00", "05", "100", "999", "1a", "0#", "#00", "#0a",
            "(", "()", "(a", "(a)", "(a+", "(a+)", "(a+b", "(a+b+c)", "(a/b)", "(a+b))", "(12", "(123+1)", "(01+1)", "(+a)",
            "{", "{}", "{a", "{a}", "{a?", "{a?b", "{a?b}", "{a?b:", "{a?b:}", "{a?b:c", "{a?b:c)", "{a?b:c}}", "{a:b?c}", "{a?b?c}",
            "{a+b?c:d}", "(a?b:c)", "((a+b)*c", "{0?1:12", "{0?1:#", "-1", "(a-b}", "~", "!",
            "{1?2:3}4", "(1+2)3", "a0", "#00"};
        int[] index = {0, 0, 0, 0, 0, 0, 0, 1, 1, 1, 1, 1, 1, 1, 1, 2, 2, 1, 1, 2, 2,
            1, 1, 2, 2, 3, 3, 4, 4, 2, 5, 3, 3, 2, 1,
            1, 1, 2, 2, 3, 4, 4, 5, 5, 6, 6, 7, 2, 4,
            2, 2, 8, 7, 6, 0, 4, 0, 0,
            7, 5, 1, 2};
        for (int i = 0; i < wrong.length; i++) {
            D.due("fault of " + wrong[i], Texts.fault(x, wrong[i]), index[i]);
            D.due("recipe of " + wrong[i], x.recipe(5), -3);
            D.due("the pad stays, " + wrong[i], x.count(3), wrong[i].length());
        }
        D.due("fault is no change", x.count(4), 0);
    }

    private static void faultOfLongTexts() {
        LoafMemory x = new LoafMemory();
        D.due("60 brackets", Texts.fault(x, "(".repeat(60)), 60);
        D.due("60 braces", Texts.fault(x, "{".repeat(60)), 60);
        D.due("59 brackets and a wrong end", Texts.fault(x, "(".repeat(59) + ")"), 59);
        D.due("a text of 60", Texts.fault(x, "(".repeat(14) + "10" + "+1)".repeat(14) + "+"), 58);
        D.due("a right text of 58", Texts.fault(x, "(".repeat(14) + "10" + "+1)".repeat(14)), -6);
        String full = "(10+" + "(".repeat(13) + "10" + "+1)".repeat(13) + ")";
        D.due("its length", full.length(), 59);
        D.due("a right text of 59", Texts.fault(x, full), -6);
        D.due("its parts", x.recipe(0), 29);
        D.due("its result", x.ask(0), 33);
    }

    private static void recipe() {
        LoafMemory x = new LoafMemory();
        D.due("a", Texts.recipe(x, 0, "a"), 1);
        D.due("the pad is empty", x.count(3), 0);
        D.due("(a+#0)", Texts.recipe(x, 1, "(a+#0)"), 3);
        D.due("{a?b:c}", Texts.recipe(x, 2, "{a?b:c}"), 4);
        D.due("(({#1?12:#0}+a)*(a-99))", Texts.recipe(x, 3, "(({#1?12:#0}+a)*(a-99))"), 10);
        D.due("shelves of 2", x.ofLoaf(2, 1), 7);
        D.due("loaves of 3", x.ofLoaf(3, 2), 3);
        D.due("#4", Texts.recipe(x, 5, "#4"), 1);
        D.due("which have one", x.count(7), 0b101111);
        D.due("in place of another", Texts.recipe(x, 3, "l"), 1);
        D.due("shelves of the new one", x.ofLoaf(3, 1), 1 << 11);
        D.due("loaves of the new one", x.ofLoaf(3, 2), 0);
        D.due("six changes", x.count(4), 6);
        Texts.onPad(x, "b");
        D.due("undo()", x.undo(), 5);
        D.due("the old one is back", x.ofLoaf(3, 2), 3);
        D.due("the pad is not", x.count(3), 1);
    }

    private static void recipeErrors() {
        LoafMemory x = new LoafMemory();
        Texts.onPad(x, "#3");
        D.due("no loaf 6", x.recipe(6), -1);
        D.due("no loaf -1", x.recipe(-1), -1);
        D.due("no loaf 32", x.recipe(32), -1);
        D.due("no loaf and a fault", Texts.recipe(x, 6, ")"), -1);
        D.due("a fault and a loaf that is not lower", Texts.recipe(x, 0, "(#3"), -3);
        D.due("its own number", Texts.recipe(x, 3, "#3"), -5);
        D.due("a higher number", Texts.recipe(x, 2, "{0?#3:1}"), -5);
        D.due("the pad stays", x.count(3), 8);
        D.due("one of two", Texts.recipe(x, 3, "(#0+#4)"), -5);
        D.due("a lower number", Texts.recipe(x, 4, "#3"), 1);
        D.due("an empty pad", x.recipe(4), -3);
        D.due("one change", x.count(4), 1);
        D.due("one recipe", x.count(7), 16);
    }

    private static void recipeForgets() {
        LoafMemory x = new LoafMemory();
        Texts.recipe(x, 0, "a");
        Texts.recipe(x, 1, "(#0+1)");
        x.ask(1);
        x.put(0, 3);
        x.ask(1);
        D.due("four memories", x.count(0), 4);
        Texts.onPad(x, "(");
        D.due("a fault forgets nothing", x.recipe(0), -3);
        D.due("four memories still", x.count(0), 4);
        D.due("a new recipe", Texts.recipe(x, 0, "(a+0)"), 3);
        D.due("those of the other loaf are left", x.count(0), 2);
        D.due("both of loaf 1", x.ofLoaf(1, 5), 2);
        D.due("the bakings are not forgotten", x.ofLoaf(0, 3), 2);
        D.due("loaf 1 still fits", x.ask(1), 4);
        D.due("given again", x.ofLoaf(1, 4), 1);
        D.due("loaf 0 baked a third time", x.ofLoaf(0, 3), 3);
    }
}
