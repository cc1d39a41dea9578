import java.util.ArrayList;
import java.util.HashMap;
import java.util.LinkedHashMap;
import java.util.List;
import java.util.Map;

/**
 * A second reading of the document, slow and plain: trees for recipes, lists for memories, a whole copy for
 * each state. RandomRunsTest holds LoafMemory against it.
 */
final class PlainBaker {
    static final int NO_SUCH = -1, BAD_VALUE = -2, BAD_TEXT = -3, TOO_MANY = -4, NOT_POSSIBLE = -5, NONE = -6;
    static final int POISON = 100;

    /** A tree: kind is a..l, '#', 'n', '+', '-', '*' or '{'. */
    private record Tree(char kind, int number, Tree x, Tree y, Tree z) {
        int parts() {
            return 1 + (x == null ? 0 : x.parts()) + (y == null ? 0 : y.parts()) + (z == null ? 0 : z.parts());
        }

        int shelves() {
            return below(false) | (kind >= 'a' && kind <= 'l' ? 1 << (kind - 'a') : 0);
        }

        int loaves() {
            return below(true) | (kind == '#' ? 1 << number : 0);
        }

        private int below(boolean loaves) {
            int all = 0;
            for (Tree t : new Tree[] {x, y, z}) {
                if (t != null) {
                    all |= loaves ? t.loaves() : t.shelves();
                }
            }
            return all;
        }
    }

    private static final class Fault extends Exception {
        private static final long serialVersionUID = 1;
        final int index;

        Fault(int index) {
            this.index = index;
        }
    }

    private static final class Poisoned extends Exception {
        private static final long serialVersionUID = 1;
    }

    private static final class Mem {
        int loaf;
        int result;
        int steps;
        int uses;
        Map<Integer, Integer> looked = new LinkedHashMap<>();

        Mem copy() {
            Mem m = new Mem();
            m.loaf = loaf;
            m.result = result;
            m.steps = steps;
            m.uses = uses;
            m.looked = new LinkedHashMap<>(looked);
            return m;
        }
    }

    private static final class World {
        int[] numbers = new int[12];
        boolean[] poisoned = new boolean[12];
        int room = 8;
        int keep = 1;
        Tree[] recipes = new Tree[6];
        int[] baked = new int[6];
        int[] again = new int[6];
        int made;
        int saved;
        List<Mem> memories = new ArrayList<>();

        World copy() {
            World w = new World();
            w.numbers = numbers.clone();
            w.poisoned = poisoned.clone();
            w.room = room;
            w.keep = keep;
            w.recipes = recipes.clone();
            w.baked = baked.clone();
            w.again = again.clone();
            w.made = made;
            w.saved = saved;
            for (Mem m : memories) {
                w.memories.add(m.copy());
            }
            return w;
        }

        int shelf(int s) {
            return poisoned[s] ? POISON : numbers[s];
        }

        void trim() {
            while (memories.size() > room) {
                memories.remove(memories.size() - 1);
            }
        }

        boolean has(Mem m) {
            for (Mem other : memories) {
                if (other == m) {
                    return true;
                }
            }
            return false;
        }

        void use(Mem m) {
            List<Mem> rest = new ArrayList<>();
            rest.add(m);
            for (Mem other : memories) {
                if (other != m) {
                    rest.add(other);
                }
            }
            memories = rest;
            m.uses++;
        }

        int ask(int loaf) {
            if (recipes[loaf] == null) {
                return POISON;
            }
            for (Mem m : new ArrayList<>(memories)) {
                if (m.loaf == loaf && has(m) && askFits(m)) {
                    use(m);
                    again[loaf]++;
                    saved += m.steps;
                    return m.result;
                }
            }
            Mem m = bake(loaf, false);
            baked[loaf]++;
            made += m.steps;
            if (m.result != POISON || keep == 1) {
                use(m);
                trim();
            }
            return m.result;
        }

        private boolean askFits(Mem m) {
            for (Map.Entry<Integer, Integer> e : m.looked.entrySet()) {
                int now = e.getKey() < 12 ? shelf(e.getKey()) : ask(e.getKey() - 20);
                if (!has(m)) {
                    return false;
                }
                if (now != e.getValue()) {
                    return false;
                }
            }
            return true;
        }

        Mem bake(int loaf, boolean freshly) {
            Mem m = new Mem();
            m.loaf = loaf;
            try {
                m.result = reckon(recipes[loaf], m, freshly);
            } catch (Poisoned p) {
                m.result = POISON;
            }
            return m;
        }

        private int reckon(Tree t, Mem m, boolean freshly) throws Poisoned {
            switch (t.kind) {
                case 'n':
                    m.steps++;
                    return t.number;
                case '{': {
                    int x = reckon(t.x, m, freshly);
                    m.steps++;
                    return reckon(x != 0 ? t.y : t.z, m, freshly);
                }
                case '+':
                case '-':
                case '*': {
                    int x = reckon(t.x, m, freshly);
                    int y = reckon(t.y, m, freshly);
                    m.steps++;
                    return Math.floorMod(t.kind == '+' ? x + y : t.kind == '-' ? x - y : x * y, 100);
                }
                default: {
                    int what = t.kind == '#' ? 20 + t.number : t.kind - 'a';
                    m.steps++;
                    if (!m.looked.containsKey(what)) {
                        m.looked.put(what, what < 12 ? shelf(what) : freshly ? fresh(what - 20) : ask(what - 20));
                    }
                    int value = m.looked.get(what);
                    if (value == POISON) {
                        throw new Poisoned();
                    }
                    return value;
                }
            }
        }

        int fresh(int loaf) {
            return recipes[loaf] == null ? POISON : bake(loaf, true).result;
        }

        int looksAt(int loaf) {
            int set = 0;
            if (recipes[loaf] != null) {
                for (int what : bake(loaf, true).looked.keySet()) {
                    set |= what < 12 ? 1 << what : looksAt(what - 20);
                }
            }
            return set;
        }
    }

    private World world = new World();
    private final List<World> history = new ArrayList<>();
    private final Map<Integer, World> slots = new HashMap<>();
    private String pad = "";

    private void change() {
        history.add(world.copy());
        if (history.size() > 6) {
            history.remove(0);
        }
    }

    private static boolean shelf(int s) {
        return s >= 0 && s <= 11;
    }

    private static boolean loaf(int l) {
        return l >= 0 && l <= 5;
    }

    private boolean memory(int m) {
        return m >= 0 && m < world.memories.size();
    }

    int set(int setting, int value) {
        if (setting == 0 && value >= 1 && value <= 16) {
            change();
            int before = world.room;
            world.room = value;
            world.trim();
            return before;
        }
        if (setting == 1 && (value == 0 || value == 1)) {
            change();
            int before = world.keep;
            world.keep = value;
            return before;
        }
        return BAD_VALUE;
    }

    int put(int s, int number) {
        if (!shelf(s)) {
            return NO_SUCH;
        }
        if (number < 0 || number > 99) {
            return BAD_VALUE;
        }
        change();
        int before = world.numbers[s];
        world.numbers[s] = number;
        return before;
    }

    int poison(int s, int is) {
        if (!shelf(s)) {
            return NO_SUCH;
        }
        if (is < 0 || is > 1) {
            return BAD_VALUE;
        }
        change();
        int before = world.poisoned[s] ? 1 : 0;
        world.poisoned[s] = is == 1;
        return before;
    }

    int ask(int l) {
        if (!loaf(l)) {
            return NO_SUCH;
        }
        change();
        return world.ask(l);
    }

    int forget(int m) {
        if (!memory(m)) {
            return NO_SUCH;
        }
        change();
        world.memories.remove(m);
        return world.memories.size();
    }

    int type(long characters) {
        StringBuilder text = new StringBuilder();
        boolean ended = false;
        for (int i = 0; i < 8; i++) {
            int code = (int) (characters >> (8 * i)) & 255;
            if (code == 0) {
                ended = true;
            } else if (ended || code < 33 || code > 126) {
                return BAD_VALUE;
            } else {
                text.insert(0, (char) code);
            }
        }
        if (text.length() == 0) {
            return BAD_VALUE;
        }
        if (pad.length() + text.length() > 60) {
            return TOO_MANY;
        }
        pad += text;
        return pad.length();
    }

    int wipe() {
        int before = pad.length();
        pad = "";
        return before;
    }

    private int at;

    private Tree read() throws Fault {
        at = 0;
        Tree t = readRecipe();
        if (at < pad.length()) {
            throw new Fault(at);
        }
        return t;
    }

    private char next(String allowed) throws Fault {
        if (at >= pad.length() || allowed.indexOf(pad.charAt(at)) < 0) {
            throw new Fault(at);
        }
        return pad.charAt(at++);
    }

    private Tree readRecipe() throws Fault {
        char c = next("abcdefghijkl#0123456789({");
        if (c == '#') {
            return new Tree('#', next("01234") - '0', null, null, null);
        }
        if (c >= '0' && c <= '9') {
            int n = c - '0';
            if (n > 0 && at < pad.length() && Character.isDigit(pad.charAt(at))) {
                n = n * 10 + (pad.charAt(at++) - '0');
            }
            return new Tree('n', n, null, null, null);
        }
        if (c == '(') {
            Tree x = readRecipe();
            char op = next("+-*");
            Tree y = readRecipe();
            next(")");
            return new Tree(op, 0, x, y, null);
        }
        if (c == '{') {
            Tree x = readRecipe();
            next("?");
            Tree y = readRecipe();
            next(":");
            Tree z = readRecipe();
            next("}");
            return new Tree('{', 0, x, y, z);
        }
        return new Tree(c, 0, null, null, null);
    }

    int fault() {
        try {
            read();
            return NONE;
        } catch (Fault f) {
            return f.index;
        }
    }

    int recipe(int l) {
        if (!loaf(l)) {
            return NO_SUCH;
        }
        Tree t;
        try {
            t = read();
        } catch (Fault f) {
            return BAD_TEXT;
        }
        if (t.loaves() >= 1 << l) {
            return NOT_POSSIBLE;
        }
        change();
        world.recipes[l] = t;
        world.memories.removeIf(m -> m.loaf == l);
        pad = "";
        return t.parts();
    }

    int ofShelf(int s, int what) {
        if (!shelf(s)) {
            return NO_SUCH;
        }
        if (what == 0) {
            return world.numbers[s];
        }
        if (what == 1) {
            return world.poisoned[s] ? 1 : 0;
        }
        if (what != 2) {
            return BAD_VALUE;
        }
        int set = 0;
        for (int l = 0; l < 6; l++) {
            if (world.recipes[l] != null && (world.recipes[l].shelves() & 1 << s) != 0) {
                set |= 1 << l;
            }
        }
        return set;
    }

    int ofLoaf(int l, int what) {
        if (!loaf(l)) {
            return NO_SUCH;
        }
        Tree t = world.recipes[l];
        return switch (what) {
            case 0 -> t != null ? 1 : 0;
            case 1 -> t != null ? t.shelves() : 0;
            case 2 -> t != null ? t.loaves() : 0;
            case 3 -> world.baked[l];
            case 4 -> world.again[l];
            case 5 -> (int) world.memories.stream().filter(m -> m.loaf == l).count();
            default -> BAD_VALUE;
        };
    }

    int ofMemory(int place, int what) {
        if (!memory(place)) {
            return NO_SUCH;
        }
        Mem m = world.memories.get(place);
        return switch (what) {
            case 0 -> m.loaf;
            case 1 -> m.result;
            case 2 -> m.looked.size();
            case 3 -> m.steps;
            case 4 -> m.uses;
            default -> BAD_VALUE;
        };
    }

    int look(int place, int look, int what) {
        if (!memory(place)) {
            return NO_SUCH;
        }
        Mem m = world.memories.get(place);
        if (look < 0 || look >= m.looked.size()) {
            return NO_SUCH;
        }
        int key = new ArrayList<>(m.looked.keySet()).get(look);
        return what == 0 ? key : what == 1 ? m.looked.get(key) : BAD_VALUE;
    }

    int count(int what) {
        int having = 0;
        for (int l = 0; l < 6; l++) {
            having |= world.recipes[l] != null ? 1 << l : 0;
        }
        return switch (what) {
            case 0 -> world.memories.size();
            case 1 -> world.made;
            case 2 -> world.saved;
            case 3 -> pad.length();
            case 4 -> history.size();
            case 5 -> world.room;
            case 6 -> world.keep;
            case 7 -> having;
            default -> BAD_VALUE;
        };
    }

    int fresh(int l) {
        return loaf(l) ? world.fresh(l) : NO_SUCH;
    }

    int fits(int l) {
        if (!loaf(l)) {
            return NO_SUCH;
        }
        for (int place = 0; place < world.memories.size(); place++) {
            Mem m = world.memories.get(place);
            boolean same = m.loaf == l;
            for (Map.Entry<Integer, Integer> e : m.looked.entrySet()) {
                int what = e.getKey();
                same = same && (what < 12 ? world.shelf(what) : world.fresh(what - 20)) == e.getValue();
            }
            if (same) {
                return place;
            }
        }
        return NONE;
    }

    int looksAt(int l) {
        return loaf(l) ? world.looksAt(l) : NO_SUCH;
    }

    int changes(int s, int number) {
        if (!shelf(s)) {
            return NO_SUCH;
        }
        if (number < 0 || number > 99) {
            return BAD_VALUE;
        }
        World other = world.copy();
        other.numbers[s] = number;
        int set = 0;
        for (int l = 0; l < 6; l++) {
            set |= world.fresh(l) != other.fresh(l) ? 1 << l : 0;
        }
        return set;
    }

    int numberFor(int s, int l, int result) {
        if (!shelf(s) || !loaf(l)) {
            return NO_SUCH;
        }
        if (result < 0 || result > 100) {
            return BAD_VALUE;
        }
        World other = world.copy();
        for (int n = 0; n < 100; n++) {
            other.numbers[s] = n;
            if (other.fresh(l) == result) {
                return n;
            }
        }
        return NONE;
    }

    int stepsFor(int l) {
        if (!loaf(l)) {
            return NO_SUCH;
        }
        World other = world.copy();
        other.ask(l);
        return other.made - world.made;
    }

    int undo() {
        if (history.isEmpty()) {
            return NOT_POSSIBLE;
        }
        world = history.remove(history.size() - 1);
        return history.size();
    }

    int save(int slot) {
        if (slot != 0 && slot != 1) {
            return BAD_VALUE;
        }
        slots.put(slot, world.copy());
        return world.memories.size();
    }

    int restore(int slot) {
        if (slot != 0 && slot != 1) {
            return BAD_VALUE;
        }
        if (!slots.containsKey(slot)) {
            return NOT_POSSIBLE;
        }
        change();
        world = slots.get(slot).copy();
        return world.memories.size();
    }
}
