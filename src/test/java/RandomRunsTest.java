import java.util.Random;

/** Holds LoafMemory against PlainBaker over many runs of calls; the seeds are fixed, so the runs are always the same. */
public final class RandomRunsTest {
    private static final int RUNS = 2500;
    private static final int CALLS = 512;
    private static final int[] ODD = {-1, -2, 6, 7, 12, 13, 20, 31, 32, 100, 101, 255, Integer.MAX_VALUE, Integer.MIN_VALUE};

    private final Due due = new Due();
    private final LoafMemory x = new LoafMemory();
    private final PlainBaker y = new PlainBaker();
    private final Random random;
    private final int seed;
    private final int shelvesUsed;
    private final int numbersUsed;
    private int calls;

    private RandomRunsTest(int seed) {
        this.seed = seed;
        random = new Random(seed);
        shelvesUsed = 1 + random.nextInt(12);
        numbersUsed = random.nextBoolean() ? 2 : 1 + random.nextInt(100);
    }

    public static void main(String[] args) {
        for (int seed = 0; seed < RUNS; seed++) {
            RandomRunsTest run = new RandomRunsTest(seed);
            run.run();
            if (!run.due.isAsDue()) {
                System.exit(1);
            }
        }
        System.out.println(RUNS + " runs are as the plain baker's");
    }

    private void run() {
        for (int l = 0; l < 6; l++) {
            if (random.nextInt(4) != 0) {
                newRecipe(l);
            }
        }
        while (calls < CALLS && due.isAsDue()) {
            change();
            whatIs();
            whatIf();
        }
    }

    private void same(String call, int got, int want) {
        calls++;
        if (calls <= CALLS) {
            due.due("run " + seed + ", call " + calls + ": " + call, got, want);
        }
    }

    private int odd(int usual) {
        return random.nextInt(30) == 0 ? ODD[random.nextInt(ODD.length)] : usual;
    }

    private int shelf() {
        return odd(random.nextInt(shelvesUsed));
    }

    private int loaf() {
        return odd(random.nextInt(6));
    }

    private int number() {
        return odd(random.nextInt(numbersUsed));
    }

    private void change() {
        int kind = random.nextInt(40);
        if (kind < 18) {
            int l = odd(random.nextInt(3) == 0 ? random.nextInt(6) : 3 + random.nextInt(3));
            same("ask(" + l + ")", x.ask(l), y.ask(l));
        } else if (kind < 26) {
            int s = shelf();
            int n = number();
            same("put(" + s + ", " + n + ")", x.put(s, n), y.put(s, n));
        } else if (kind < 29) {
            int s = shelf();
            int is = odd(random.nextInt(3) / 2);
            same("poison(" + s + ", " + is + ")", x.poison(s, is), y.poison(s, is));
        } else if (kind < 31) {
            int setting = odd(random.nextInt(2));
            int value = odd(setting == 0 ? 1 + random.nextInt(random.nextInt(3) == 0 ? 16 : 5) : random.nextInt(2));
            same("set(" + setting + ", " + value + ")", x.set(setting, value), y.set(setting, value));
        } else if (kind < 32) {
            int m = odd(random.nextInt(8));
            same("forget(" + m + ")", x.forget(m), y.forget(m));
        } else if (kind < 35) {
            newRecipe(loaf());
        } else if (kind < 37) {
            same("undo()", x.undo(), y.undo());
        } else if (kind < 38) {
            int slot = odd(random.nextInt(2));
            same("save(" + slot + ")", x.save(slot), y.save(slot));
        } else if (kind < 39) {
            int slot = odd(random.nextInt(2));
            same("restore(" + slot + ")", x.restore(slot), y.restore(slot));
        } else {
            long text = random.nextBoolean() ? random.nextLong() : random.nextLong() & 0xff00ffffL;
            same("type(" + text + ")", x.type(text), y.type(text));
        }
    }

    private void newRecipe(int l) {
        if (random.nextInt(8) != 0) {
            same("wipe()", x.wipe(), y.wipe());
        }
        StringBuilder text = new StringBuilder();
        do {
            text.setLength(0);
            grow(text, Math.min(Math.max(l, 0), 5), 1 + random.nextInt(5));
        } while (text.length() > 60);
        if (random.nextInt(6) == 0) {
            text.setCharAt(random.nextInt(text.length()), "al09#+-*(){}?:m5".charAt(random.nextInt(16)));
        }
        if (random.nextInt(12) == 0) {
            text.setLength(1 + random.nextInt(text.length()));
        }
        for (int i = 0; i < text.length(); ) {
            int end = Math.min(text.length(), i + 1 + random.nextInt(8));
            long packed = Texts.packed(text.substring(i, end));
            same("type(" + text.substring(i, end) + ")", x.type(packed), y.type(packed));
            i = end;
        }
        same("fault() of " + text, x.fault(), y.fault());
        same("recipe(" + l + ") of " + text, x.recipe(l), y.recipe(l));
    }

    private void grow(StringBuilder text, int l, int depth) {
        int kind = depth == 0 ? random.nextInt(5) : random.nextInt(9);
        if (kind < 2 || kind < 4 && l == 0) {
            text.append((char) ('a' + random.nextInt(shelvesUsed)));
        } else if (kind < 4) {
            boolean tooHigh = l < 5 && random.nextInt(20) == 0;
            text.append('#').append(random.nextInt(tooHigh ? l + 1 : l));
        } else if (kind < 5) {
            text.append(random.nextInt(4) == 0 ? random.nextInt(101) : random.nextInt(3));
        } else if (kind < 7) {
            text.append('(');
            grow(text, l, depth - 1);
            text.append("+-*".charAt(random.nextInt(3)));
            grow(text, l, depth - 1);
            text.append(')');
        } else {
            text.append('{');
            grow(text, l, depth - 1);
            text.append('?');
            grow(text, l, depth - 1);
            text.append(':');
            grow(text, l, depth - 1);
            text.append('}');
        }
    }

    private void whatIs() {
        for (int i = 0; i < 3; i++) {
            int what = odd(random.nextInt(8));
            same("count(" + what + ")", x.count(what), y.count(what));
        }
        int s = shelf();
        int l = loaf();
        int w = odd(random.nextInt(3));
        same("ofShelf(" + s + ", " + w + ")", x.ofShelf(s, w), y.ofShelf(s, w));
        w = odd(random.nextInt(6));
        same("ofLoaf(" + l + ", " + w + ")", x.ofLoaf(l, w), y.ofLoaf(l, w));
        for (int i = 0; i < 3; i++) {
            int m = odd(random.nextInt(Math.max(1, Math.min(16, y.count(0)))));
            w = odd(random.nextInt(5));
            same("ofMemory(" + m + ", " + w + ")", x.ofMemory(m, w), y.ofMemory(m, w));
            int k = odd(random.nextInt(Math.max(1, y.ofMemory(m, 2)) + 1));
            w = odd(random.nextInt(2));
            same("look(" + m + ", " + k + ", " + w + ")", x.look(m, k, w), y.look(m, k, w));
        }
    }

    private void whatIf() {
        int l = loaf();
        int s = shelf();
        int n = number();
        switch (random.nextInt(6)) {
            case 0:
                same("fresh(" + l + ")", x.fresh(l), y.fresh(l));
                break;
            case 1:
                same("fits(" + l + ")", x.fits(l), y.fits(l));
                break;
            case 2:
                same("looksAt(" + l + ")", x.looksAt(l), y.looksAt(l));
                break;
            case 3:
                same("changes(" + s + ", " + n + ")", x.changes(s, n), y.changes(s, n));
                break;
            case 4:
                int r = odd(random.nextInt(101));
                same("numberFor(" + s + ", " + l + ", " + r + ")", x.numberFor(s, l, r), y.numberFor(s, l, r));
                break;
            default:
                same("stepsFor(" + l + ")", x.stepsFor(l), y.stepsFor(l));
        }
    }
}
