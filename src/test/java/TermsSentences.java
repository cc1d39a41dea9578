/** Section "Terms", the conventions and recipes: a test for each sentence. */
final class TermsSentences {
    private final Sentences s;

    TermsSentences(Sentences s) {
        this.s = s;
    }

    void run() {
        s.section("What it is");
        s.promisesNothing("A baker who remembers what he looked at before each loaf: shelves with numbers, some of them poisoned, recipes that "
            + "look at shelves and at other loaves only as far as they have to, loaves that are remembered with all that was looked at, loaves "
            + "that are given again if all of it is as it was, memories that are forgotten when there are too many, poison that is remembered or "
            + "not, steps that were made and saved, what a change of a shelf would do, recipes that are read from texts, undo, and saved states.");
        s.promisesNothing("An object is used for at most 512 calls after it has been made; what later calls answer is free.");
        s.section("Terms");
        codes();
        order();
        new RefusedCalls(s).changeNothing();
        none();
        numberedFrom0();
        sets();
        room();
        keep();
        shelves();
        loaves();
        pad();
        grammar();
        shelfLetters();
        loafDigits();
        numbers();
        faults();
        numbersAbove99();
        endsTooEarly();
        lowerLoaves();
        interfaceWords();
    }

    private void codes() {
        s.says("CONVENTIONS. A method that fails returns one of the error codes NO_SUCH (-1), BAD_VALUE (-2), BAD_TEXT (-3), TOO_MANY (-4) and "
            + "NOT_POSSIBLE (-5);");
        LoafMemory x = new LoafMemory();
        s.due("ask(6)", x.ask(6), -1);
        s.due("set(0, 17)", x.set(0, 17), -2);
        s.due("recipe(0) of an empty pad", x.recipe(0), -3);
        s.due("undo() of nothing", x.undo(), -5);
        for (int i = 1; i <= 60; i++) {
            x.type('a');
        }
        s.due("type('a') on a full pad", x.type('a'), -4);
    }

    private void order() {
        s.says("it names its errors in the order in which they are checked, and the first one that applies is returned.");
        LoafMemory x = new LoafMemory();
        s.due("put(12, 100)", x.put(12, 100), -1);
        s.due("poison(-1, 2)", x.poison(-1, 2), -1);
        s.due("ofShelf(12, 3)", x.ofShelf(12, 3), -1);
        s.due("ofLoaf(6, 6)", x.ofLoaf(6, 6), -1);
        s.due("ofMemory(0, 5) of none", x.ofMemory(0, 5), -1);
        s.due("look(0, 0, 2) of no memory", x.look(0, 0, 2), -1);
        s.due("changes(12, 100)", x.changes(12, 100), -1);
        s.due("numberFor(12, 0, 101)", x.numberFor(12, 0, 101), -1);
        s.due("numberFor(0, 6, 101)", x.numberFor(0, 6, 101), -1);
        s.due("restore(2), nothing saved", x.restore(2), -2);
        s.due("recipe(6), the pad has a fault and names a loaf that is not lower", Texts.recipe(x, 6, "(#4"), -1);
        s.due("recipe(6), the pad names loaves", Texts.recipe(x, 6, "#4"), -1);
        s.due("recipe(0), the pad has a fault and names a loaf that is not lower", Texts.recipe(x, 0, "(#4"), -3);
        s.due("recipe(0), the pad names a loaf that is not lower", Texts.recipe(x, 0, "#4"), -5);
        Texts.recipe(x, 0, "a");
        x.ask(0);
        s.due("look(0, 1, 2): no such look", x.look(0, 1, 2), -1);
        s.due("look(0, 0, 2)", x.look(0, 0, 2), -2);
        Texts.onPad(x, "a".repeat(60));
        s.due("type(0) on a full pad", x.type(0), -2);
        s.due("type of a space and more on a full pad", x.type(0x2061L), -2);
    }

    private void none() {
        s.says("NONE (-6) is not an error; it is returned only if no error applies.");
        LoafMemory x = new LoafMemory();
        s.due("fits(0) without memories", x.fits(0), -6);
        s.due("fits(6) without memories", x.fits(6), -1);
        s.due("numberFor(0, 0, 0) of no recipe", x.numberFor(0, 0, 0), -6);
        s.due("numberFor(0, 0, 101) of no recipe", x.numberFor(0, 0, 101), -2);
        s.due("numberFor(0, 6, 0)", x.numberFor(0, 6, 0), -1);
        s.due("numberFor(12, 0, 0)", x.numberFor(12, 0, 0), -1);
        s.due("fault() of \"a\"", Texts.fault(x, "a"), -6);
    }

    private void numberedFrom0() {
        s.says("Everything is numbered from 0.");
        LoafMemory x = new LoafMemory();
        s.due("put(0, 7)", x.put(0, 7), 0);
        s.due("put(11, 7)", x.put(11, 7), 0);
        s.due("put(12, 7)", x.put(12, 7), -1);
        s.due("recipe(0)", Texts.recipe(x, 0, "a"), 1);
        s.due("recipe(5)", Texts.recipe(x, 5, "#0"), 1);
        s.due("recipe(6)", Texts.recipe(x, 6, "a"), -1);
        s.due("ask(5)", x.ask(5), 7);
        s.due("memory 0", x.ofMemory(0, 0), 5);
        s.due("memory 1", x.ofMemory(1, 0), 0);
        s.due("memory 2", x.ofMemory(2, 0), -1);
        s.due("look 0 is at loaf 0", x.look(0, 0, 0), 20);
        s.due("look 0 is at shelf 0", x.look(1, 0, 0), 0);
        s.due("look 1", x.look(1, 1, 0), -1);
        s.due("fault() at the first character", Texts.fault(x, "?"), 0);
        s.due("save(0)", x.save(0), 2);
        s.due("save(1)", x.save(1), 2);
        s.due("save(2)", x.save(2), -2);
        s.due("set(0, 8)", x.set(0, 8), 8);
        s.due("set(1, 1)", x.set(1, 1), 1);
        s.due("set(2, 1)", x.set(2, 1), -2);
    }

    private void sets() {
        s.says("Sets are bit masks.");
        LoafMemory x = new LoafMemory();
        s.due("no loaf has a recipe", x.count(7), 0);
        Texts.recipe(x, 0, "(a+l)");
        s.due("the first and the last shelf", x.ofLoaf(0, 1), 0b100000000001);
        s.due("no loaf", x.ofLoaf(0, 2), 0);
        Texts.recipe(x, 5, "(#0+#4)");
        s.due("the first and the last loaf that can be named", x.ofLoaf(5, 2), 0b10001);
        s.due("the first and the last loaf", x.count(7), 0b100001);
        s.due("no shelf", x.ofLoaf(5, 1), 0);
        s.due("shelf a is named by loaf 0", x.ofShelf(0, 2), 1);
        Texts.recipe(x, 5, "(((a+b)+(c+d))+(((e+f)+(g+h))+((i+j)+(k+l))))");
        s.due("all shelves", x.ofLoaf(5, 1), 0b111111111111);
        s.due("all shelves are looked at", x.looksAt(5), 0b111111111111);
        s.due("loaves that name shelf l", x.ofShelf(11, 2), 0b100001);
        s.due("loaves that shelf l changes", x.changes(11, 1), 0b100001);
        Texts.recipe(x, 5, "(#0+(#1+(#2+(#3+#4))))");
        s.due("all loaves that can be named", x.ofLoaf(5, 2), 0b11111);
        for (int loaf = 1; loaf < 5; loaf++) {
            Texts.recipe(x, loaf, "a");
        }
        s.due("all loaves", x.count(7), 0b111111);
        s.due("all loaves name shelf a but the last", x.ofShelf(0, 2), 0b011111);
        s.due("all loaves are changed", x.changes(0, 1), 0b111111);
    }

    private void room() {
        s.says("(In parentheses: range; first value.) ROOM (1 to 16; 8), of memories.");
        LoafMemory x = new LoafMemory();
        s.due("at first", x.count(5), 8);
        s.due("0 is too small", x.set(0, 0), -2);
        s.due("17 is too large", x.set(0, 17), -2);
        s.due("1 is in range", x.set(0, 1), 8);
        s.due("16 is in range", x.set(0, 16), 1);
        Texts.recipe(x, 0, "a");
        for (int number = 0; number < 18; number++) {
            x.put(0, number);
            x.ask(0);
            s.due("memories of 16 after " + (number + 1), x.count(0), Math.min(16, number + 1));
        }
        LoafMemory y = new LoafMemory();
        Texts.recipe(y, 0, "a");
        for (int number = 0; number < 10; number++) {
            y.put(0, number);
            y.ask(0);
            s.due("memories of 8 after " + (number + 1), y.count(0), Math.min(8, number + 1));
        }
    }

    private void keep() {
        s.says("KEEP (0 or 1; 1), for poison.");
        LoafMemory x = new LoafMemory();
        s.due("at first", x.count(6), 1);
        s.due("-1 is too small", x.set(1, -1), -2);
        s.due("2 is too large", x.set(1, 2), -2);
        s.due("1 is in range", x.set(1, 1), 1);
        s.due("0 is in range", x.set(1, 0), 1);
        s.due("the other one", x.set(1, 1), 0);
    }

    private void shelves() {
        s.says("There are 12 shelves, 0 to 11, written a to l, each with a number (0 to 99; 0 at first), and poisoned or not (not, at first).");
        LoafMemory x = new LoafMemory();
        for (int shelf = 0; shelf < 12; shelf++) {
            s.due("number of " + shelf, x.ofShelf(shelf, 0), 0);
            s.due("poison of " + shelf, x.ofShelf(shelf, 1), 0);
            s.due("put(" + shelf + ", 99)", x.put(shelf, 99), 0);
            s.due("put(" + shelf + ", 0)", x.put(shelf, 0), 99);
            s.due("put(" + shelf + ", " + (shelf + 80) + ")", x.put(shelf, shelf + 80), 0);
            Texts.recipe(x, 0, "" + (char) ('a' + shelf));
            s.due("written as a letter, " + shelf, x.ask(0), shelf + 80);
            s.due("poison(" + shelf + ", 1)", x.poison(shelf, 1), 0);
            s.due("poisoned " + shelf, x.ask(0), 100);
        }
        s.due("put(-1, 1)", x.put(-1, 1), -1);
        s.due("put(12, 1)", x.put(12, 1), -1);
        s.due("put(0, -1)", x.put(0, -1), -2);
        s.due("put(0, 100)", x.put(0, 100), -2);
    }

    private void loaves() {
        s.says("There are 6 loaves, 0 to 5, each with a recipe or none (none, at first).");
        LoafMemory x = new LoafMemory();
        for (int loaf = 0; loaf < 6; loaf++) {
            s.due("recipe of " + loaf, x.ofLoaf(loaf, 0), 0);
            Texts.recipe(x, loaf, "" + loaf);
            s.due("recipe then of " + loaf, x.ofLoaf(loaf, 0), 1);
            s.due("loaves with a recipe", x.count(7), (2 << loaf) - 1);
            s.due("ask(" + loaf + ")", x.ask(loaf), loaf);
        }
        s.due("ofLoaf(6, 0)", x.ofLoaf(6, 0), -1);
        s.due("ofLoaf(-1, 0)", x.ofLoaf(-1, 0), -1);
    }

    private void pad() {
        s.says("A recipe is read from the pad, a text of at most 60 characters:");
        LoafMemory x = new LoafMemory();
        String full = "(a+(b+(c+(d+(e+(f+(g+(h+(i+(j+(k+(l+(#0+(#1+#2))))))))))))))";
        s.due("characters of a full pad", full.length(), 60);
        s.due("recipe(5) of a full pad", Texts.recipe(x, 5, full), 29);
        Texts.onPad(x, full);
        s.due("a 61st character", x.type(')'), -4);
        s.due("characters that are on the pad", x.count(3), 60);
        s.due("recipe(5) once more", x.recipe(5), 29);
        s.due("recipe(5) of an empty pad", x.recipe(5), -3);
        s.due("recipe(5) of one character", Texts.recipe(x, 5, "l"), 1);
    }

    private void grammar() {
        s.says("recipe = shelf | loaf | number | \"(\" recipe ( \"+\" | \"-\" | \"*\" ) recipe \")\" | \"{\" recipe \"?\" recipe \":\" recipe \"}\"");
        String[] right = {"a", "#0", "7", "(a+b)", "(a-b)", "(a*b)", "{a?b:c}", "((a+b)-c)", "(a*(b+c))", "((a*b)-(c+d))", "{{a?b:c}?d:e}",
            "{a?{b?c:d}:e}", "{a?b:{c?d:e}}", "{(a+b)?(b-c):(c*d)}", "({a?b:c}+{a?b:c})", "(#0+9)", "{#0?9:#4}"};
        LoafMemory x = new LoafMemory();
        for (String text : right) {
            s.due("fault of " + text, Texts.fault(x, text), -6);
        }
        fault("(a)", 2);
        fault("()", 1);
        fault("a+b", 1);
        fault("(a+b+c)", 4);
        fault("(a++b)", 3);
        fault("(+b)", 1);
        fault("(a+)", 3);
        fault("(a/b)", 2);
        fault("(a?b)", 2);
        fault("[a+b]", 0);
        fault("(a+b}", 4);
        fault("(a+b]", 4);
        fault("{a?b}", 4);
        fault("{a:b?c}", 2);
        fault("{?b:c}", 1);
        fault("{a?:c}", 3);
        fault("{a?b:}", 5);
        fault("{a?b?c}", 4);
        fault("{a+b}", 2);
        fault("{a?b:c)", 6);
        fault("{a?b:c:d}", 6);
        fault("+a", 0);
        fault("-1", 0);
        fault(")", 0);
        fault("}", 0);
        fault("(a+b)c", 5);
        fault("(a+b))", 5);
        fault("{a?b:c}}", 7);
        fault("(ab+c)", 2);
        fault("(a+bc)", 4);
    }

    private void shelfLetters() {
        s.says("A shelf is a letter from a to l;");
        fault("a", -6);
        fault("l", -6);
        fault("`", 0);
        fault("m", 0);
        fault("z", 0);
        fault("A", 0);
        fault("L", 0);
        fault("(l+m)", 3);
        fault("ab", 1);
        fault("a1", 1);
        fault("b1", 1);
        fault("l0", 1);
        fault("(b2+c)", 2);
        fault("(1+c3)", 4);
    }

    private void loafDigits() {
        s.says("a loaf is \"#\" and a digit from 0 to 4;");
        fault("#0", -6);
        fault("#4", -6);
        fault("#5", 1);
        fault("#9", 1);
        fault("#/", 1);
        fault("#:", 1);
        fault("#a", 1);
        fault("##", 1);
        fault("#-1", 1);
        fault("#00", 2);
        fault("#04", 2);
        fault("0#", 1);
        fault("(#4+#5)", 5);
    }

    private void numbers() {
        s.says("a number is 0 to 99, without leading zeros.");
        LoafMemory x = new LoafMemory();
        for (int number = 0; number < 100; number++) {
            Texts.recipe(x, 0, "" + number);
            s.due("the number " + number, x.ask(0), number);
        }
        fault("00", 1);
        fault("01", 1);
        fault("09", 1);
        fault("007", 1);
        fault("(1+2)3", 5);
        fault("{1?2:3}4", 7);
        fault("({1?2:3}4+5)", 8);
        fault("1(", 1);
        fault("12a", 2);
        fault("(00+1)", 2);
        fault("(1+05)", 4);
        fault("(0+0)", -6);
        fault("10", -6);
        fault("-0", 0);
        fault("/", 0);
        fault(":", 0);
    }

    private void faults() {
        s.says("The fault is the index of the first character that cannot stand at its place when the text is read from left to right");
        fault("?", 0);
        fault("m?", 0);
        fault("(m+m)", 1);
        fault("(a+b))(", 5);
        fault("{a?b:c}m", 7);
        fault("(a+)b", 3);
        fault("(".repeat(59) + ")", 59);
        fault("(".repeat(30) + "m" + "(".repeat(29), 30);
        fault("(a+(b+(c+(d+(e+(f+(g+(h+(i+(j+(k+(l+(#0+(#1+99)))))))))))))*", 59);
        LoafMemory x = new LoafMemory();
        s.due("fault of a right text of 60", Texts.fault(x, "(a+(b+(c+(d+(e+(f+(g+(h+(i+(j+(k+(l+(#0+(#1+99))))))))))))))"), -6);
    }

    private void numbersAbove99() {
        s.says("(also of a digit by which a number would be above 99);");
        fault("99", -6);
        fault("100", 2);
        fault("990", 2);
        fault("999", 2);
        fault("1000", 2);
        fault("(100+1)", 3);
        fault("(1+100)", 5);
        fault("{1?2:345}", 7);
        fault("{10?20:30}", -6);
        fault("100)", 2);
    }

    private void endsTooEarly() {
        s.says("if there is none and the text ends too early (also if it is empty), it is the length of the text.");
        for (String text : new String[] {"", "(", "(a", "(a+", "(a+b", "(1", "(12", "{", "{a", "{a?", "{a?b", "{a?b:", "{a?b:c", "{a?b:12", "#", "(#",
            "((a+b)", "{(a+b)", "{a?b:(c+d)", "(".repeat(60), "{".repeat(60), "(".repeat(59) + "#", "(".repeat(58) + "99"}) {
            fault(text, text.length());
        }
        fault("a", -6);
        fault("9", -6);
    }

    private void lowerLoaves() {
        s.says("A recipe may name only loaves with lower numbers than its own.");
        LoafMemory x = new LoafMemory();
        for (int loaf = 0; loaf < 6; loaf++) {
            for (int named = 0; named < 5; named++) {
                s.due("#" + named + " in a recipe of " + loaf, Texts.recipe(x, loaf, "#" + named), named < loaf ? 1 : -5);
            }
        }
        s.due("where it would not be looked at", Texts.recipe(x, 1, "{0?#1:1}"), -5);
        s.due("beside a lower one", Texts.recipe(x, 2, "(#0+#2)"), -5);
        s.due("above a lower one", Texts.recipe(x, 1, "(#4+#0)"), -5);
        s.due("lower ones alone", Texts.recipe(x, 5, "(#4+#0)"), 3);
    }

    private void interfaceWords() {
        s.says("The constants: `NO_SUCH = -1, BAD_VALUE = -2, BAD_TEXT = -3, TOO_MANY = -4, NOT_POSSIBLE = -5, NONE = -6`: Error codes, and NONE: "
            + "there is none.");
        s.due("NO_SUCH", LoafMemory.NO_SUCH, -1);
        s.due("BAD_VALUE", LoafMemory.BAD_VALUE, -2);
        s.due("BAD_TEXT", LoafMemory.BAD_TEXT, -3);
        s.due("TOO_MANY", LoafMemory.TOO_MANY, -4);
        s.due("NOT_POSSIBLE", LoafMemory.NOT_POSSIBLE, -5);
        s.due("NONE", LoafMemory.NONE, -6);
        s.says("`POISON = 100`: A result that is none.");
        s.due("POISON", LoafMemory.POISON, 100);
        s.due("a loaf without a recipe", new LoafMemory().ask(0), LoafMemory.POISON);
        s.says("`ROOM = 0, KEEP = 1`: Settings.");
        s.due("ROOM", LoafMemory.ROOM, 0);
        s.due("KEEP", LoafMemory.KEEP, 1);
        s.due("set(ROOM, 8)", new LoafMemory().set(LoafMemory.ROOM, 8), 8);
        s.due("set(KEEP, 1)", new LoafMemory().set(LoafMemory.KEEP, 1), 1);
        s.promisesNothing("Ahead of the calls `set`, `put`, `poison`, `ask`, `forget` the interface says: ---- what happens.");
        s.promisesNothing("Ahead of the calls `type`, `wipe`, `fault`, `recipe` the interface says: ---- texts.");
        s.promisesNothing("Ahead of the calls `ofShelf`, `ofLoaf`, `ofMemory`, `look`, `count` the interface says: ---- what there is.");
        s.promisesNothing("Ahead of the calls `fresh`, `fits`, `looksAt`, `changes`, `numberFor`, `stepsFor` the interface says: ---- what if; "
            + "nothing changes.");
        s.promisesNothing("Ahead of the calls `undo`, `save`, `restore` the interface says: ---- undo, saving.");
    }

    private void fault(String text, int index) {
        LoafMemory x = new LoafMemory();
        s.due("fault of " + text, Texts.fault(x, text), index);
        if (index >= 0) {
            s.due("recipe(5) of " + text, x.recipe(5), -3);
        }
    }
}
