/** Promises 16 to 21: fresh, fits, looksAt, changes, numberFor, stepsFor. */
public final class WhatIfTest {
    private static final Due D = new Due();

    public static void main(String[] args) {
        fresh();
        fits();
        looksAt();
        changes();
        numberFor();
        stepsFor();
        nothingChanges();
        wrongInputs();
        D.end();
    }

    private static LoafMemory baker() {
        LoafMemory x = new LoafMemory();
        Texts.recipe(x, 0, "(a+b)");
        Texts.recipe(x, 1, "{c?#0:d}");
        Texts.recipe(x, 3, "(#1*#1)");
        Texts.recipe(x, 4, "(e+#2)");
        x.put(0, 3);
        x.put(1, 4);
        x.put(3, 5);
        return x;
    }

    private static void fresh() {
        LoafMemory x = baker();
        D.due("fresh(0)", x.fresh(0), 7);
        D.due("fresh(1)", x.fresh(1), 5);
        D.due("fresh(2), no recipe", x.fresh(2), 100);
        D.due("fresh(3)", x.fresh(3), 25);
        D.due("fresh(4), names one without", x.fresh(4), 100);
        x.put(2, 1);
        D.due("fresh(3) over #0", x.fresh(3), 49);
        x.poison(1, 1);
        D.due("fresh(0) of poison", x.fresh(0), 100);
        D.due("fresh(3) of poison", x.fresh(3), 100);
        x.put(2, 0);
        D.due("fresh(3) past the poison", x.fresh(3), 25);
        x.set(1, 0);
        D.due("fresh(0) of poison without KEEP", x.fresh(0), 100);
    }

    private static void fits() {
        LoafMemory x = baker();
        D.due("no memory", x.fits(3), -6);
        D.due("no recipe", x.fits(2), -6);
        x.ask(3);
        D.due("fits(3)", x.fits(3), 0);
        D.due("fits(1)", x.fits(1), 1);
        D.due("fits(0), never asked for", x.fits(0), -6);
        x.put(2, 1);
        D.due("loaf 1 is another one", x.fits(3), -6);
        D.due("and has none", x.fits(1), -6);
        x.put(3, 7);
        x.ask(3);
        x.put(2, 0);
        D.due("loaf 1 is 7 as it was with #0", x.fits(3), 0);
        D.due("but no memory of it fits", x.fits(1), -6);
        x.put(3, 5);
        D.due("the older memory of loaf 3", x.fits(3), 3);
        D.due("the older memory of loaf 1", x.fits(1), 4);

        LoafMemory y = new LoafMemory();
        Texts.recipe(y, 0, "({a?b:c}*0)");
        y.ask(0);
        y.put(0, 1);
        y.ask(0);
        D.due("both were", y.count(0), 2);
        D.due("the one with a = 1", y.fits(0), 0);
        y.put(0, 0);
        D.due("the one with a = 0", y.fits(0), 1);
        y.poison(2, 1);
        D.due("none with c poisoned", y.fits(0), -6);

        LoafMemory z = new LoafMemory();
        Texts.recipe(z, 0, "a");
        Texts.recipe(z, 1, "#0");
        Texts.recipe(z, 2, "{#1?1:2}");
        z.poison(0, 1);
        z.ask(2);
        D.due("a poisoned loaf fits", z.fits(2), 0);
        z.poison(0, 0);
        D.due("a clean one does not", z.fits(2), -6);

        LoafMemory v = new LoafMemory();
        Texts.recipe(v, 0, "a");
        v.ask(0);
        v.put(0, 1);
        v.ask(0);
        v.put(0, 0);
        v.set(0, 1);
        D.due("a forgotten one does not fit", v.fits(0), -6);
    }

    private static void looksAt() {
        LoafMemory x = baker();
        D.due("looksAt(0)", x.looksAt(0), 3);
        D.due("looksAt(1)", x.looksAt(1), 12);
        D.due("looksAt(2), no recipe", x.looksAt(2), 0);
        D.due("looksAt(3)", x.looksAt(3), 12);
        D.due("looksAt(4), ended by #2", x.looksAt(4), 16);
        x.put(2, 1);
        D.due("looksAt(3) over #0", x.looksAt(3), 7);
        x.ask(3);
        D.due("memories do not matter", x.looksAt(3), 7);
        x.poison(0, 1);
        D.due("the one whose poison ends it", x.looksAt(3), 5);
        x.poison(2, 1);
        D.due("the first one whose poison ends it", x.looksAt(3), 4);
        Texts.recipe(x, 5, "(#0+l)");
        D.due("ended by the poison of #0", x.looksAt(5), 1);
        Texts.recipe(x, 5, "(l+7)");
        D.due("l", x.looksAt(5), 1 << 11);
        Texts.recipe(x, 5, "7");
        D.due("a number", x.looksAt(5), 0);
    }

    private static void changes() {
        LoafMemory x = baker();
        D.due("a: loaf 0 alone, #0 is not looked at", x.changes(0, 9), 1);
        D.due("the number that it has", x.changes(0, 3), 0);
        D.due("d: loaves 1 and 3", x.changes(3, 6), 0b1010);
        D.due("d: loaf 1 alone, 55 * 55 ends with 25, too", x.changes(3, 55), 0b10);
        D.due("c: #0 is 7", x.changes(2, 1), 0b1010);
        x.put(3, 7);
        D.due("c: #0 is 7 as d", x.changes(2, 1), 0);
        D.due("e is looked at, and 4 is poison all the same", x.changes(4, 1), 0);
        x.poison(3, 1);
        D.due("d is poisoned, and stays so", x.changes(3, 6), 0);
        D.due("c: past the poison", x.changes(2, 1), 0b1010);
        D.due("99 is a number", x.changes(0, 99), 1);
        D.due("0 is a number", x.changes(0, 0), 1);
    }

    private static void numberFor() {
        LoafMemory x = baker();
        D.due("a for 7", x.numberFor(0, 0, 7), 3);
        D.due("a for 3", x.numberFor(0, 0, 3), 99);
        D.due("a for 4", x.numberFor(0, 0, 4), 0);
        D.due("d for 3's 25: the least", x.numberFor(3, 3, 25), 5);
        D.due("d for 3's 49", x.numberFor(3, 3, 49), 7);
        D.due("d for 3's 2: none is", x.numberFor(3, 3, 2), -6);
        D.due("c for 3's 49", x.numberFor(2, 3, 49), 1);
        D.due("a shelf that does not matter", x.numberFor(11, 0, 7), 0);
        D.due("a shelf that does not matter, another result", x.numberFor(11, 0, 8), -6);
        D.due("POISON cannot be", x.numberFor(0, 0, 100), -6);
        D.due("POISON of no recipe", x.numberFor(0, 2, 100), 0);
        D.due("a number of no recipe", x.numberFor(0, 2, 0), -6);
        x.poison(0, 1);
        D.due("POISON of a poisoned shelf", x.numberFor(0, 0, 100), 0);
        D.due("a number of a poisoned shelf", x.numberFor(0, 0, 7), -6);
        D.due("POISON of loaf 1 if c is not 0", x.numberFor(2, 1, 100), 1);
    }

    private static void stepsFor() {
        LoafMemory x = baker();
        D.due("stepsFor(2), no recipe", x.stepsFor(2), 0);
        D.due("stepsFor(0)", x.stepsFor(0), 3);
        D.due("stepsFor(1)", x.stepsFor(1), 3);
        D.due("stepsFor(3), loaf 1 once", x.stepsFor(3), 6);
        D.due("stepsFor(4)", x.stepsFor(4), 2);
        x.put(2, 1);
        D.due("stepsFor(3) over #0", x.stepsFor(3), 9);
        x.ask(0);
        D.due("stepsFor(3), #0 is remembered", x.stepsFor(3), 6);
        x.ask(3);
        D.due("stepsFor(3), all is remembered", x.stepsFor(3), 0);
        x.put(0, 4);
        x.put(1, 3);
        D.due("stepsFor(3), #0 is baked and still 7", x.stepsFor(3), 3);
        x.set(0, 1);
        // The look bakes 0 and 1 and forgets 3's memory; 3's baking asks for 1, whose memory goes while it bakes 0; 1, 3.
        D.due("stepsFor(3), memories are forgotten meanwhile", x.stepsFor(3), 3 + 3 + 3 + 3 + 3);
        x.poison(0, 1);
        x.set(1, 0);
        D.due("stepsFor(0) of poison", x.stepsFor(0), 1);
        x.ask(0);
        D.due("stepsFor(0) of poison that is not kept", x.stepsFor(0), 1);
    }

    private static void nothingChanges() {
        LoafMemory x = baker();
        x.ask(3);
        x.put(2, 1);
        String before = Told.all(x);
        x.fresh(3);
        x.fits(3);
        x.looksAt(3);
        x.changes(2, 8);
        x.numberFor(2, 3, 77);
        x.stepsFor(3);
        D.holds("nothing changes", Told.all(x).equals(before));
    }

    private static void wrongInputs() {
        LoafMemory x = baker();
        for (int loaf : new int[] {-1, 6, Integer.MIN_VALUE, Integer.MAX_VALUE}) {
            D.due("fresh(" + loaf + ")", x.fresh(loaf), -1);
            D.due("fits(" + loaf + ")", x.fits(loaf), -1);
            D.due("looksAt(" + loaf + ")", x.looksAt(loaf), -1);
            D.due("stepsFor(" + loaf + ")", x.stepsFor(loaf), -1);
            D.due("numberFor(0, " + loaf + ", 101)", x.numberFor(0, loaf, 101), -1);
        }
        D.due("changes(12, 100)", x.changes(12, 100), -1);
        D.due("changes(-1, 0)", x.changes(-1, 0), -1);
        D.due("changes(0, 100)", x.changes(0, 100), -2);
        D.due("changes(0, -1)", x.changes(0, -1), -2);
        D.due("numberFor(12, 0, 0)", x.numberFor(12, 0, 0), -1);
        D.due("numberFor(-1, 0, 101)", x.numberFor(-1, 0, 101), -1);
        D.due("numberFor(0, 0, 101)", x.numberFor(0, 0, 101), -2);
        D.due("numberFor(0, 0, -1)", x.numberFor(0, 0, -1), -2);
        D.due("numberFor(0, 0, -6)", x.numberFor(0, 0, -6), -2);
    }
}
