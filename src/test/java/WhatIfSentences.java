import java.util.function.ToIntFunction;

/** Promises 16 to 21: a test for each sentence. */
final class WhatIfSentences {
    private static final int[] NO_SHELF = {-1, 12, 31, 32, Integer.MIN_VALUE, Integer.MAX_VALUE};
    private static final int[] NO_LOAF = {-1, 6, 20, 32, Integer.MIN_VALUE, Integer.MAX_VALUE};
    private static final int[] NO_NUMBER = {-1, 100, 101, 256, Integer.MIN_VALUE, Integer.MAX_VALUE};

    private final Sentences s;

    WhatIfSentences(Sentences s) {
        this.s = s;
    }

    void run() {
        fresh();
        fits();
        fitsPlaces();
        looksAt();
        changes();
        numberFor();
        stepsFor();
    }

    /** Loaf 0 is a+b = 7, loaf 1 is #0 if c, d = 5 if not, loaf 2 has none, loaf 3 is #1 times itself, loaf 4 is e+#2, loaf 5 is 9. */
    private static LoafMemory some() {
        LoafMemory x = new LoafMemory();
        Texts.recipe(x, 0, "(a+b)");
        Texts.recipe(x, 1, "{c?#0:d}");
        Texts.recipe(x, 3, "(#1*#1)");
        Texts.recipe(x, 4, "(e+#2)");
        Texts.recipe(x, 5, "9");
        x.put(0, 3);
        x.put(1, 4);
        x.put(3, 5);
        return x;
    }

    private static LoafMemory asked() {
        LoafMemory x = some();
        x.ask(3);
        x.put(2, 1);
        x.save(0);
        x.type('a');
        return x;
    }

    private void changesNothing(String call, ToIntFunction<LoafMemory> asking) {
        s.changesNothing(call, WhatIfSentences::asked, asking);
        s.changesNothing(call + " of a new object", LoafMemory::new, asking);
    }

    private void noLoaf(String call, Asking asking) {
        for (int loaf : NO_LOAF) {
            s.due(call + "(" + loaf + ")", asking.ask(asked(), loaf), -1);
        }
    }

    private interface Asking {
        int ask(LoafMemory x, int number);
    }

    private void fresh() {
        s.section("Promise 16: fresh");
        s.says("Returns what a loaf would be if it and all loaves that it names were baked, without memories.");
        changesNothing("fresh(3)", x -> x.fresh(3));
        LoafMemory x = asked();
        s.due("over memories that do not fit", x.fresh(3), 49);
        x.put(2, 0);
        s.due("as the memory", x.fresh(3), 25);
        x.put(2, 99);
        x.put(0, 0);
        x.put(1, 0);
        s.due("a result of 0", x.fresh(3), 0);
        s.due("it was not baked for that", x.ofLoaf(3, 3), 1);
        s.says("Returns the result;");
        s.due("the least result", x.fresh(0), 0);
        x.put(1, 99);
        s.due("the greatest result", x.fresh(0), 99);
        s.due("a number", x.fresh(5), 9);
        s.due("no recipe", x.fresh(2), 100);
        s.due("names one without a recipe", x.fresh(4), 100);
        x.poison(1, 1);
        s.due("poison", x.fresh(0), 100);
        s.due("poison of a named loaf", x.fresh(3), 100);
        x.set(LoafMemory.KEEP, 0);
        s.due("poison without KEEP", x.fresh(3), 100);
        x.put(2, 0);
        s.due("a poisoned loaf that is not looked at", x.fresh(3), 25);
        s.says("NO_SUCH if there is no such loaf.");
        noLoaf("fresh", LoafMemory::fresh);
    }

    private void fits() {
        s.section("Promise 17: fits");
        s.says("Tells which memory of a loaf fits now, as if all loaves that it names were baked freshly.");
        changesNothing("fits(3)", x -> x.fits(3));
        LoafMemory x = asked();
        s.due("#1 would be 7 if it was baked", x.fits(3), -6);
        x.put(0, 1);
        s.due("#1 would be 5 if it was baked", x.fits(3), 0);
        s.due("loaf 1 itself looked at another c", x.fits(1), -6);
        x.put(2, 0);
        s.due("loaf 1 with the same c", x.fits(1), 1);
        x.forget(1);
        s.due("#1 is baked without its memory", x.fits(3), 0);
        x.poison(3, 1);
        s.due("#1 would be POISON", x.fits(3), -6);
        x.set(LoafMemory.KEEP, 0);
        x.set(LoafMemory.KEEP, 1);
        x.ask(3);
        s.due("POISON as it was", x.fits(3), 0);
        x.set(LoafMemory.KEEP, 0);
        s.due("also without KEEP", x.fits(3), 0);
        LoafMemory y = some();
        y.ask(5);
        s.due("a memory that looked at nothing", y.fits(5), 0);
        y.ask(4);
        s.due("a loaf without a recipe is POISON still", y.fits(4), 0);
        y.put(4, 1);
        s.due("e is another one", y.fits(4), -6);
    }

    private void fitsPlaces() {
        s.says("Returns its place, 0 for the one that was used last of all (of several the one that was used last);");
        LoafMemory x = new LoafMemory();
        Texts.recipe(x, 0, "a");
        Texts.recipe(x, 1, "7");
        x.set(LoafMemory.ROOM, 16);
        x.ask(1);
        for (int number = 0; number < 15; number++) {
            x.put(0, number);
            x.ask(0);
        }
        for (int number = 0; number < 15; number++) {
            x.put(0, number);
            s.due("place of " + number, x.fits(0), 14 - number);
        }
        s.due("the last place of sixteen", x.fits(1), 15);
        x.ask(1);
        s.due("used last", x.fits(1), 0);
        s.due("the other ones are one place further", x.fits(0), 1);
        s.says("NO_SUCH if there is no such loaf;");
        noLoaf("fits", LoafMemory::fits);
        s.says("NONE if none fits.");
        s.due("a loaf without a recipe", x.fits(5), -6);
        s.due("a loaf of a new object", new LoafMemory().fits(0), -6);
        x.put(0, 15);
        s.due("fifteen that do not fit", x.fits(0), -6);
        x.put(0, 3);
        s.due("one that does", x.fits(0), 12);
        x.forget(12);
        s.due("it was forgotten", x.fits(0), -6);
        s.due("a loaf that was never asked for", some().fits(0), -6);
        s.due("a loaf that was baked for another one", asked().fits(0), -6);
    }

    private void looksAt() {
        s.section("Promise 18: looksAt");
        s.says("Returns the shelves that would be looked at if a loaf and all loaves that it names were baked, without memories, as a set (with the "
            + "one whose poison ends it).");
        changesNothing("looksAt(3)", x -> x.looksAt(3));
        LoafMemory x = asked();
        s.due("c, then a and b of #0", x.looksAt(3), 0b111);
        x.ask(3);
        s.due("memories do not matter", x.looksAt(3), 0b111);
        x.put(2, 0);
        s.due("c, then d", x.looksAt(3), 0b1100);
        x.poison(3, 1);
        s.due("d is poisoned", x.looksAt(3), 0b1100);
        x.poison(2, 1);
        s.due("c is poisoned", x.looksAt(3), 0b0100);
        x.poison(2, 0);
        x.put(2, 1);
        x.poison(0, 1);
        s.due("a is poisoned, b is not looked at", x.looksAt(3), 0b101);
        s.due("e, then a loaf without a recipe", x.looksAt(4), 0b10000);
        s.says("Returns the set;");
        s.due("none: a number", x.looksAt(5), 0);
        s.due("none: no recipe", x.looksAt(2), 0);
        Texts.recipe(x, 5, "(#2+l)");
        s.due("none: a loaf without a recipe ends it", x.looksAt(5), 0);
        Texts.recipe(x, 5, "(l+l)");
        s.due("the last one", x.looksAt(5), 0b100000000000);
        Texts.recipe(x, 5, "(((l+b)+(c+d))+(((e+f)+(g+h))+((i+j)+(k+a))))");
        x.poison(3, 0);
        s.due("all of them, a ends it", x.looksAt(5), 0b111111111111);
        x.poison(11, 1);
        s.due("the first one ends it", x.looksAt(5), 0b100000000000);
        s.says("NO_SUCH if there is no such loaf.");
        noLoaf("looksAt", LoafMemory::looksAt);
    }

    private void changes() {
        s.section("Promise 19: changes");
        s.says("Returns the loaves whose fresh() would be another one if a shelf had another number (and was poisoned or not as it is).");
        changesNothing("changes(0, 5)", x -> x.changes(0, 5));
        LoafMemory x = some();
        s.due("a: #0 is not looked at by loaf 1", x.changes(0, 9), 0b1);
        s.due("d: loaf 1 and loaf 3", x.changes(3, 6), 0b1010);
        s.due("d: loaf 3 would be 25 still", x.changes(3, 55), 0b10);
        s.due("c: #0 is 7", x.changes(2, 1), 0b1010);
        x.ask(3);
        s.due("memories do not matter", x.changes(2, 1), 0b1010);
        x.poison(2, 1);
        s.due("c stays poisoned", x.changes(2, 1), 0);
        x.poison(2, 0);
        x.poison(3, 1);
        s.due("d stays poisoned", x.changes(3, 6), 0);
        s.due("c: past the poison of d", x.changes(2, 1), 0b1010);
        s.due("a loaf that is POISON all the same", x.changes(4, 1), 0);
        s.says("0 to 99");
        s.due("changes(0, 0)", x.changes(0, 0), 1);
        s.due("changes(0, 99)", x.changes(0, 99), 1);
        s.due("changes(0, -1)", x.changes(0, -1), -2);
        s.due("changes(0, 100)", x.changes(0, 100), -2);
        s.says("Returns the set;");
        s.due("none: the number that it has", x.changes(0, 3), 0);
        s.due("none: a shelf that no loaf names", x.changes(11, 1), 0);
        for (int loaf = 0; loaf < 6; loaf++) {
            Texts.recipe(x, loaf, "l");
        }
        s.due("all of them", x.changes(11, 1), 0b111111);
        s.says("NO_SUCH if there is no such shelf;");
        for (int shelf : NO_SHELF) {
            s.due("changes(" + shelf + ", 1)", x.changes(shelf, 1), -1);
            s.due("changes(" + shelf + ", 100)", x.changes(shelf, 100), -1);
        }
        s.says("BAD_VALUE if number is out of range.");
        for (int number : NO_NUMBER) {
            s.due("changes(11, " + number + ")", x.changes(11, number), -2);
        }
    }

    private void numberFor() {
        s.section("Promise 20: numberFor");
        s.says("Finds the least number which a shelf would have to have so that fresh() of a loaf is a result.");
        changesNothing("numberFor(2, 3, 49)", x -> x.numberFor(2, 3, 49));
        LoafMemory x = some();
        s.due("a so that loaf 0 is 4", x.numberFor(0, 0, 4), 0);
        s.due("a so that loaf 0 is 3", x.numberFor(0, 0, 3), 99);
        s.due("a so that loaf 0 is 7, as it is", x.numberFor(0, 0, 7), 3);
        s.due("d so that loaf 3 is 25: 5, not 15, 45 or 55", x.numberFor(3, 3, 25), 5);
        s.due("d so that loaf 3 is 0: 0, not 10", x.numberFor(3, 3, 0), 0);
        s.due("c so that loaf 3 is 49: 1, not 2", x.numberFor(2, 3, 49), 1);
        s.due("l so that loaf 0 is 7 as it is", x.numberFor(11, 0, 7), 0);
        s.says("0 to 99, or POISON");
        s.due("0", x.numberFor(0, 0, 0), 96);
        s.due("99", x.numberFor(0, 0, 99), 95);
        s.due("POISON", x.numberFor(0, 2, 100), 0);
        s.due("-1", x.numberFor(0, 0, -1), -2);
        s.due("101", x.numberFor(0, 0, 101), -2);
        s.says("Returns the number;");
        x.poison(0, 1);
        s.due("c so that loaf 1 is POISON", x.numberFor(2, 1, 100), 1);
        s.due("a, which is poisoned, so that loaf 0 is POISON", x.numberFor(0, 0, 100), 0);
        s.due("c so that loaf 1 is not POISON", x.numberFor(2, 1, 5), 0);
        s.says("NO_SUCH if there is no such shelf or loaf;");
        for (int shelf : NO_SHELF) {
            s.due("numberFor(" + shelf + ", 0, 7)", x.numberFor(shelf, 0, 7), -1);
            s.due("numberFor(" + shelf + ", 0, 101)", x.numberFor(shelf, 0, 101), -1);
        }
        noLoaf("numberFor(0, .., 7) of ", (y, loaf) -> y.numberFor(0, loaf, 7));
        noLoaf("numberFor(0, .., -1) of ", (y, loaf) -> y.numberFor(0, loaf, -1));
        s.says("BAD_VALUE if result is out of range;");
        for (int result : new int[] {-1, -6, 101, 256, Integer.MIN_VALUE, Integer.MAX_VALUE}) {
            s.due("numberFor(0, 0, " + result + ")", x.numberFor(0, 0, result), -2);
        }
        s.says("NONE if there is none.");
        s.due("a square that ends with 2", x.numberFor(3, 3, 2), -6);
        s.due("a poisoned shelf", x.numberFor(0, 0, 7), -6);
        s.due("a shelf that is not looked at", x.numberFor(11, 5, 8), -6);
        s.due("POISON of clean ones", x.numberFor(3, 5, 100), -6);
        s.due("POISON of a clean one that is looked at", x.numberFor(3, 1, 100), -6);
        s.due("POISON of a clean one that a named loaf looks at", x.numberFor(3, 3, 100), -6);
        s.due("a number of no recipe", x.numberFor(0, 2, 0), -6);
    }

    private void stepsFor() {
        s.section("Promise 21: stepsFor");
        s.says("Tells how many steps would be made (by the loaf and all that are asked for) if a loaf was asked for now.");
        changesNothing("stepsFor(3)", x -> x.stepsFor(3));
        LoafMemory x = asked();
        s.due("#1 anew, #0 anew, then loaf 3", x.stepsFor(3), 3 + 3 + 3);
        x.ask(0);
        s.due("#1 anew, then loaf 3", x.stepsFor(3), 3 + 3);
        x.put(2, 0);
        s.due("all of it is as it was", x.stepsFor(3), 0);
        x.forget(2);
        x.put(0, 1);
        x.put(2, 1);
        s.due("#1 and #0 anew; #1 is 5 as it was", x.stepsFor(3), 3 + 3);
        x.set(LoafMemory.ROOM, 1);
        x.ask(3);
        // Its look bakes 0 and 1, and it goes; its baking asks for 1, whose memory goes as it looks at 0; then 1 and 3.
        s.due("memories go while they are looked at", x.stepsFor(3), 3 + 3 + 3 + 3 + 3);
        x.poison(2, 1);
        x.set(LoafMemory.KEEP, 0);
        s.due("poison is baked by the look and by the baking", x.stepsFor(3), 1 + 1 + 1);
        s.says("Returns the steps;");
        LoafMemory y = some();
        s.due("none: no recipe", y.stepsFor(2), 0);
        s.due("one", y.stepsFor(5), 1);
        s.due("poison of a loaf without a recipe", y.stepsFor(4), 2);
        y.ask(5);
        s.due("none: it is remembered", y.stepsFor(5), 0);
        Texts.recipe(y, 5, "((((a+a)+(a+a))+((a+a)+(a+a)))+((a+a)+(a+a)))");
        s.due("many", y.stepsFor(5), 23);
        s.says("NO_SUCH if there is no such loaf.");
        noLoaf("stepsFor", LoafMemory::stepsFor);
    }
}
