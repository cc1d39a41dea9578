import java.util.Arrays;

/**
 * A baker who remembers what he looked at before each loaf.
 *
 * <p>All that undo, save and restore bring back stands in one {@link State}; the pad, the history and
 * the slots stand beside it. Every row is made in a constructor and used again, because all calls of a
 * run share one room; only a recipe that was read is a new object.
 */
public final class LoafMemory {
    public static final int NO_SUCH = -1, BAD_VALUE = -2, BAD_TEXT = -3, TOO_MANY = -4, NOT_POSSIBLE = -5, NONE = -6;
    public static final int POISON = 100;
    public static final int ROOM = 0, KEEP = 1;

    private static final int SHELVES = 12;
    private static final int LOAVES = 6;
    private static final int NUMBERS = 100;
    private static final int PAD_ROOM = 60;
    private static final int MOST_CHARACTERS = 8;
    private static final int FIRST_CODE = 33;
    private static final int LAST_CODE = 126;
    private static final int MOST_MEMORIES = 16;
    private static final int FIRST_ROOM = 8;
    private static final int FIRST_LOAF_LOOK = 20;
    private static final int MOST_LOOKS = SHELVES + LOAVES;
    private static final int MOST_CHANGES = 6;
    private static final int SLOTS = 2;

    private final int[] pad = new int[PAD_ROOM];
    private int padLength;
    private State state = new State();
    private final State[] history = new State[MOST_CHANGES];
    private int changesKept;
    private final State[] slots = new State[SLOTS];
    private final boolean[] filled = new boolean[SLOTS];
    private final State trial = new State();
    private final Baker baker = new Baker();
    private final Reader reader = new Reader();

    public LoafMemory() {
        for (int i = 0; i < MOST_CHANGES; i++) {
            history[i] = new State();
        }
        for (int i = 0; i < SLOTS; i++) {
            slots[i] = new State();
        }
    }

    // ---- what happens

    public int set(int setting, int value) {
        if (!isSettingValue(setting, value)) {
            return BAD_VALUE;
        }
        recordChange();
        int previous = state.settings[setting];
        state.settings[setting] = value;
        state.dropBeyondRoom();
        return previous;
    }

    public int put(int shelf, int number) {
        if (!isShelf(shelf)) {
            return NO_SUCH;
        }
        if (!isNumber(number)) {
            return BAD_VALUE;
        }
        recordChange();
        int previous = state.numbers[shelf];
        state.numbers[shelf] = number;
        return previous;
    }

    public int poison(int shelf, int is) {
        if (!isShelf(shelf)) {
            return NO_SUCH;
        }
        if (is != 0 && is != 1) {
            return BAD_VALUE;
        }
        recordChange();
        int previous = bitOf(state.poisoned, shelf);
        state.poisoned = (state.poisoned & ~(1 << shelf)) | (is << shelf);
        return previous;
    }

    public int ask(int loaf) {
        if (!isLoaf(loaf)) {
            return NO_SUCH;
        }
        recordChange();
        return baker.askedResult(state, loaf);
    }

    public int forget(int memory) {
        if (!isMemory(memory)) {
            return NO_SUCH;
        }
        recordChange();
        state.drop(memory);
        return state.memoryCount;
    }

    // ---- texts

    public int type(long characters) {
        int length = lengthOfText(characters);
        if (length == 0) {
            return BAD_VALUE;
        }
        if (length > PAD_ROOM - padLength) {
            return TOO_MANY;
        }
        for (int above = length - 1; above >= 0; above--) {
            pad[padLength] = (int) ((characters >>> (8 * above)) & 255);
            padLength++;
        }
        return padLength;
    }

    public int wipe() {
        int previous = padLength;
        padLength = 0;
        return previous;
    }

    public int fault() {
        return reader.firstFault(pad, padLength);
    }

    public int recipe(int loaf) {
        if (!isLoaf(loaf)) {
            return NO_SUCH;
        }
        if (reader.firstFault(pad, padLength) != NONE) {
            return BAD_TEXT;
        }
        if ((reader.loaves >>> loaf) != 0) {
            return NOT_POSSIBLE;
        }
        recordChange();
        Recipe read = reader.recipeRead();
        state.recipes[loaf] = read;
        state.dropAllOf(loaf);
        padLength = 0;
        return read.parts;
    }

    // ---- what there is

    public int ofShelf(int shelf, int what) {
        if (!isShelf(shelf)) {
            return NO_SUCH;
        }
        switch (what) {
            case 0:
                return state.numbers[shelf];
            case 1:
                return bitOf(state.poisoned, shelf);
            case 2:
                return state.loavesNaming(shelf);
            default:
                return BAD_VALUE;
        }
    }

    public int ofLoaf(int loaf, int what) {
        if (!isLoaf(loaf)) {
            return NO_SUCH;
        }
        Recipe own = state.recipes[loaf];
        switch (what) {
            case 0:
                return own == null ? 0 : 1;
            case 1:
                return own == null ? 0 : own.shelves;
            case 2:
                return own == null ? 0 : own.loaves;
            case 3:
                return state.baked[loaf];
            case 4:
                return state.givenAgain[loaf];
            case 5:
                return state.memoriesOf(loaf);
            default:
                return BAD_VALUE;
        }
    }

    public int ofMemory(int memory, int what) {
        if (!isMemory(memory)) {
            return NO_SUCH;
        }
        Memory meant = state.memories[memory];
        switch (what) {
            case 0:
                return meant.loaf;
            case 1:
                return meant.result;
            case 2:
                return meant.lookCount;
            case 3:
                return meant.steps;
            case 4:
                return meant.uses;
            default:
                return BAD_VALUE;
        }
    }

    public int look(int memory, int look, int what) {
        if (!isMemory(memory)) {
            return NO_SUCH;
        }
        Memory meant = state.memories[memory];
        if (look < 0 || look >= meant.lookCount) {
            return NO_SUCH;
        }
        switch (what) {
            case 0:
                return meant.looks[look];
            case 1:
                return meant.values[look];
            default:
                return BAD_VALUE;
        }
    }

    public int count(int what) {
        switch (what) {
            case 0:
                return state.memoryCount;
            case 1:
                return state.stepsMade;
            case 2:
                return state.stepsSaved;
            case 3:
                return padLength;
            case 4:
                return changesKept;
            case 5:
                return state.settings[ROOM];
            case 6:
                return state.settings[KEEP];
            case 7:
                return state.loavesWithRecipe();
            default:
                return BAD_VALUE;
        }
    }

    // ---- what if; nothing changes

    public int fresh(int loaf) {
        return isLoaf(loaf) ? baker.freshResult(state, loaf) : NO_SUCH;
    }

    public int fits(int loaf) {
        if (!isLoaf(loaf)) {
            return NO_SUCH;
        }
        for (int place = 0; place < state.memoryCount; place++) {
            Memory meant = state.memories[place];
            if (meant.loaf == loaf && baker.wouldFit(state, meant)) {
                return place;
            }
        }
        return NONE;
    }

    public int looksAt(int loaf) {
        return isLoaf(loaf) ? baker.shelvesOfFresh(state, loaf) : NO_SUCH;
    }

    public int changes(int shelf, int number) {
        if (!isShelf(shelf)) {
            return NO_SUCH;
        }
        if (!isNumber(number)) {
            return BAD_VALUE;
        }
        trial.copyFrom(state);
        trial.numbers[shelf] = number;
        int others = 0;
        for (int loaf = 0; loaf < LOAVES; loaf++) {
            if (baker.freshResult(state, loaf) != baker.freshResult(trial, loaf)) {
                others |= 1 << loaf;
            }
        }
        return others;
    }

    public int numberFor(int shelf, int loaf, int result) {
        if (!isShelf(shelf) || !isLoaf(loaf)) {
            return NO_SUCH;
        }
        if (!isNumber(result) && result != POISON) {
            return BAD_VALUE;
        }
        trial.copyFrom(state);
        for (int number = 0; number < NUMBERS; number++) {
            trial.numbers[shelf] = number;
            if (baker.freshResult(trial, loaf) == result) {
                return number;
            }
        }
        return NONE;
    }

    public int stepsFor(int loaf) {
        if (!isLoaf(loaf)) {
            return NO_SUCH;
        }
        trial.copyFrom(state);
        baker.askedResult(trial, loaf);
        return trial.stepsMade - state.stepsMade;
    }

    // ---- undo, saving

    public int undo() {
        if (changesKept == 0) {
            return NOT_POSSIBLE;
        }
        changesKept--;
        State before = history[changesKept];
        history[changesKept] = state;
        state = before;
        return changesKept;
    }

    public int save(int slot) {
        if (!isSlot(slot)) {
            return BAD_VALUE;
        }
        slots[slot].copyFrom(state);
        filled[slot] = true;
        return state.memoryCount;
    }

    public int restore(int slot) {
        if (!isSlot(slot)) {
            return BAD_VALUE;
        }
        if (!filled[slot]) {
            return NOT_POSSIBLE;
        }
        recordChange();
        state.copyFrom(slots[slot]);
        return state.memoryCount;
    }

    private void recordChange() {
        if (changesKept == MOST_CHANGES) {
            dropOldestChange();
        }
        history[changesKept].copyFrom(state);
        changesKept++;
    }

    // The dropped state's object goes to the end, to be used for the next change.
    private void dropOldestChange() {
        State oldest = history[0];
        for (int i = 1; i < MOST_CHANGES; i++) {
            history[i - 1] = history[i];
        }
        history[MOST_CHANGES - 1] = oldest;
        changesKept = MOST_CHANGES - 1;
    }

    private boolean isMemory(int memory) {
        return memory >= 0 && memory < state.memoryCount;
    }

    private static boolean isShelf(int shelf) {
        return shelf >= 0 && shelf < SHELVES;
    }

    private static boolean isLoaf(int loaf) {
        return loaf >= 0 && loaf < LOAVES;
    }

    private static boolean isNumber(int number) {
        return number >= 0 && number < NUMBERS;
    }

    private static boolean isSlot(int slot) {
        return slot >= 0 && slot < SLOTS;
    }

    private static boolean isSettingValue(int setting, int value) {
        switch (setting) {
            case ROOM:
                return value >= 1 && value <= MOST_MEMORIES;
            case KEEP:
                return value == 0 || value == 1;
            default:
                return false;
        }
    }

    private static int bitOf(int set, int element) {
        return (set >>> element) & 1;
    }

    // 0 if the number is no text. Eight bits that are 0 below others are a code that is too small.
    private static int lengthOfText(long characters) {
        int length = 0;
        for (long rest = characters; length < MOST_CHARACTERS && rest != 0; rest >>>= 8) {
            int code = (int) (rest & 255);
            if (code < FIRST_CODE || code > LAST_CODE) {
                return 0;
            }
            length++;
        }
        return length;
    }

    /**
     * A recipe as a row of orders: a look or a number is laid on a pile, a sum, a difference or a product
     * takes two from it and lays one, a choice takes one and goes on at its operand if that is 0.
     */
    private static final class Recipe {
        static final int LOOK = 0, NUMBER = 1, SUM = 2, DIFFERENCE = 3, PRODUCT = 4, CHOICE = 5, SKIP = 6;

        final int[] orders;
        final int[] operands;
        final int length;
        final int parts;
        final int shelves;
        final int loaves;

        Recipe(Reader reader) {
            length = reader.length;
            orders = Arrays.copyOf(reader.orders, length);
            operands = Arrays.copyOf(reader.operands, length);
            parts = reader.parts;
            shelves = reader.shelves;
            loaves = reader.loaves;
        }
    }

    /**
     * Reads a text character by character. Brackets that are open wait in a row instead of in calls, so
     * that a text of 60 brackets needs no depth of calls.
     */
    private static final class Reader {
        // What the next character belongs to.
        private static final int RECIPE_STARTS = 0, LOAF_DIGIT = 1, IN_NUMBER = 2, RECIPE_ENDED = 3;
        // What an open bracket waits for; one with its operation waits for ")" and holds the order instead.
        private static final int OPERATION = 10, QUESTION = 11, COLON = 12, BRACE = 13;

        final int[] orders = new int[PAD_ROOM];
        final int[] operands = new int[PAD_ROOM];
        int length;
        int parts;
        int shelves;
        int loaves;
        private int stage;
        private final int[] waits = new int[PAD_ROOM];
        private final int[] openEnds = new int[PAD_ROOM];
        private int depth;

        int firstFault(int[] text, int textLength) {
            begin();
            for (int i = 0; i < textLength && i < text.length; i++) {
                if (!takes(text[i])) {
                    return i;
                }
            }
            boolean ended = stage == RECIPE_ENDED || stage == IN_NUMBER;
            return ended && depth == 0 ? NONE : textLength;
        }

        Recipe recipeRead() {
            return new Recipe(this);
        }

        private void begin() {
            length = 0;
            parts = 0;
            shelves = 0;
            loaves = 0;
            stage = RECIPE_STARTS;
            depth = 0;
        }

        private boolean takes(int code) {
            switch (stage) {
                case RECIPE_STARTS:
                    return takesStart(code);
                case LOAF_DIGIT:
                    return takesLoafDigit(code);
                case IN_NUMBER:
                    return isDigit(code) ? takesNextDigit(code - '0') : takesAfterRecipe(code);
                default:
                    return takesAfterRecipe(code);
            }
        }

        private boolean takesStart(int code) {
            if (code == '(') {
                return opens(OPERATION);
            }
            if (code == '{') {
                return opens(QUESTION);
            }
            if (code == '#') {
                stage = LOAF_DIGIT;
                return true;
            }
            if (isDigit(code)) {
                stage = IN_NUMBER;
                return addsPart(Recipe.NUMBER, code - '0');
            }
            int shelf = code - 'a';
            if (!isShelf(shelf)) {
                return false;
            }
            shelves |= 1 << shelf;
            stage = RECIPE_ENDED;
            return addsPart(Recipe.LOOK, shelf);
        }

        private boolean takesLoafDigit(int code) {
            int loaf = code - '0';
            if (loaf < 0 || loaf >= LOAVES - 1) {
                return false;
            }
            loaves |= 1 << loaf;
            stage = RECIPE_ENDED;
            return addsPart(Recipe.LOOK, FIRST_LOAF_LOOK + loaf);
        }

        private boolean takesNextDigit(int digit) {
            int last = length - 1;
            if (last < 0 || operands[last] == 0) {
                return false;
            }
            int number = operands[last] * 10 + digit;
            if (!isNumber(number)) {
                return false;
            }
            operands[last] = number;
            return true;
        }

        private boolean takesAfterRecipe(int code) {
            if (depth == 0) {
                return false;
            }
            switch (waits[depth - 1]) {
                case OPERATION:
                    return takesOperation(code);
                case QUESTION:
                    return code == '?' && takesQuestion();
                case COLON:
                    return code == ':' && takesColon();
                case BRACE:
                    return code == '}' && takesBrace();
                default:
                    return code == ')' && takesBracket();
            }
        }

        private boolean takesOperation(int code) {
            switch (code) {
                case '+':
                    return waitsNext(Recipe.SUM);
                case '-':
                    return waitsNext(Recipe.DIFFERENCE);
                case '*':
                    return waitsNext(Recipe.PRODUCT);
                default:
                    return false;
            }
        }

        private boolean takesBracket() {
            depth--;
            stage = RECIPE_ENDED;
            return addsPart(waits[depth], 0);
        }

        private boolean takesQuestion() {
            openEnds[depth - 1] = length;
            return addsPart(Recipe.CHOICE, 0) && waitsNext(COLON);
        }

        private boolean takesColon() {
            int choice = openEnds[depth - 1];
            openEnds[depth - 1] = length;
            if (!adds(Recipe.SKIP, 0)) {
                return false;
            }
            closesEnd(choice);
            return waitsNext(BRACE);
        }

        private boolean takesBrace() {
            depth--;
            closesEnd(openEnds[depth]);
            stage = RECIPE_ENDED;
            return true;
        }

        private boolean opens(int wait) {
            if (depth >= waits.length) {
                return false;
            }
            waits[depth] = wait;
            depth++;
            return true;
        }

        private boolean waitsNext(int wait) {
            waits[depth - 1] = wait;
            stage = RECIPE_STARTS;
            return true;
        }

        private boolean addsPart(int order, int operand) {
            parts++;
            return adds(order, operand);
        }

        private boolean adds(int order, int operand) {
            if (length >= orders.length) {
                return false;
            }
            orders[length] = order;
            operands[length] = operand;
            length++;
            return true;
        }

        // The order at this place, when it is followed, goes on behind all that was read so far.
        private void closesEnd(int order) {
            if (order >= 0 && order < length) {
                operands[order] = length;
            }
        }

        private static boolean isDigit(int code) {
            return code >= '0' && code <= '9';
        }
    }

    /** What was looked at before a loaf, in order, with its values, and what came of it. */
    private static final class Memory {
        int loaf;
        int result;
        int steps;
        int uses;
        // Tells a memory from a later one in the same object; 0 if the object holds none.
        int serial;
        int lookCount;
        final int[] looks = new int[MOST_LOOKS];
        final int[] values = new int[MOST_LOOKS];

        void begin(int newLoaf) {
            loaf = newLoaf;
            result = POISON;
            steps = 0;
            uses = 0;
            serial = 0;
            lookCount = 0;
        }

        void addLook(int newLook, int value) {
            if (lookCount < MOST_LOOKS) {
                looks[lookCount] = newLook;
                values[lookCount] = value;
                lookCount++;
            }
        }

        // Below 0 if it was not looked at.
        int placeOfLook(int wanted) {
            for (int i = 0; i < lookCount; i++) {
                if (looks[i] == wanted) {
                    return i;
                }
            }
            return -1;
        }

        void copyFrom(Memory other) {
            loaf = other.loaf;
            result = other.result;
            steps = other.steps;
            uses = other.uses;
            serial = other.serial;
            lookCount = other.lookCount;
            System.arraycopy(other.looks, 0, looks, 0, lookCount);
            System.arraycopy(other.values, 0, values, 0, lookCount);
        }
    }

    /** All that undo, save and restore bring back. */
    private static final class State {
        final int[] numbers = new int[SHELVES];
        int poisoned;
        final int[] settings = {FIRST_ROOM, 1};
        final Recipe[] recipes = new Recipe[LOAVES];
        // The first memoryCount are those that there are, the one used last first; the others are free.
        // One more than there may be, because a new one comes ahead of the one that has to go.
        final Memory[] memories = new Memory[MOST_MEMORIES + 1];
        int memoryCount;
        int lastSerial;
        final int[] baked = new int[LOAVES];
        final int[] givenAgain = new int[LOAVES];
        int stepsMade;
        int stepsSaved;

        State() {
            for (int i = 0; i < memories.length; i++) {
                memories[i] = new Memory();
            }
        }

        void copyFrom(State other) {
            System.arraycopy(other.numbers, 0, numbers, 0, SHELVES);
            poisoned = other.poisoned;
            System.arraycopy(other.settings, 0, settings, 0, settings.length);
            for (int i = 0; i < LOAVES; i++) {
                recipes[i] = other.recipes[i];
            }
            memoryCount = other.memoryCount;
            for (int i = 0; i < memoryCount; i++) {
                memories[i].copyFrom(other.memories[i]);
            }
            lastSerial = other.lastSerial;
            System.arraycopy(other.baked, 0, baked, 0, LOAVES);
            System.arraycopy(other.givenAgain, 0, givenAgain, 0, LOAVES);
            stepsMade = other.stepsMade;
            stepsSaved = other.stepsSaved;
        }

        int loavesNaming(int shelf) {
            int naming = 0;
            for (int i = 0; i < LOAVES; i++) {
                if (recipes[i] != null && bitOf(recipes[i].shelves, shelf) == 1) {
                    naming |= 1 << i;
                }
            }
            return naming;
        }

        int loavesWithRecipe() {
            int having = 0;
            for (int i = 0; i < LOAVES; i++) {
                if (recipes[i] != null) {
                    having |= 1 << i;
                }
            }
            return having;
        }

        int memoriesOf(int loaf) {
            int own = 0;
            for (int i = 0; i < memoryCount; i++) {
                if (memories[i].loaf == loaf) {
                    own++;
                }
            }
            return own;
        }

        // Fills a row with the serials of a loaf's memories, the one used last first.
        int serialsOf(int loaf, int[] serials) {
            int own = 0;
            for (int i = 0; i < memoryCount; i++) {
                if (memories[i].loaf == loaf && own < serials.length) {
                    serials[own] = memories[i].serial;
                    own++;
                }
            }
            return own;
        }

        // Below 0 if it was forgotten.
        int placeOfSerial(int serial) {
            for (int i = 0; i < memoryCount; i++) {
                if (memories[i].serial == serial) {
                    return i;
                }
            }
            return -1;
        }

        void use(int place) {
            if (place < 0 || place >= memoryCount) {
                return;
            }
            Memory used = memories[place];
            for (int i = place; i > 0; i--) {
                memories[i] = memories[i - 1];
            }
            memories[0] = used;
            used.uses++;
        }

        void keepMemory(Memory draft) {
            if (memoryCount >= memories.length) {
                return;
            }
            lastSerial++;
            memories[memoryCount].copyFrom(draft);
            memories[memoryCount].serial = lastSerial;
            memoryCount++;
            use(memoryCount - 1);
            dropBeyondRoom();
        }

        void dropBeyondRoom() {
            for (int place = memoryCount - 1; place >= settings[ROOM]; place--) {
                drop(place);
            }
        }

        void dropAllOf(int loaf) {
            for (int place = memoryCount - 1; place >= 0; place--) {
                if (memories[place].loaf == loaf) {
                    drop(place);
                }
            }
        }

        void drop(int place) {
            if (place < 0 || place >= memoryCount) {
                return;
            }
            Memory dropped = memories[place];
            memoryCount--;
            for (int i = place; i < memoryCount; i++) {
                memories[i] = memories[i + 1];
            }
            memories[memoryCount] = dropped;
            dropped.serial = 0;
        }
    }

    /**
     * Reckons loaves, by asking for them or freshly. A loaf names lower ones only, so it is never asked
     * for within its own baking: one row a loaf is enough, and calls go at most six loaves deep.
     */
    private static final class Baker {
        private static final int UNKNOWN = -1;

        private State state;
        private boolean freshly;
        private int shelvesSeen;
        private final int[] freshValues = new int[LOAVES];
        private final Memory[] drafts = new Memory[LOAVES];
        private final int[][] piles = new int[LOAVES][PAD_ROOM];
        private final int[][] serials = new int[LOAVES][MOST_MEMORIES + 1];

        Baker() {
            for (int i = 0; i < LOAVES; i++) {
                drafts[i] = new Memory();
            }
        }

        int askedResult(State where, int loaf) {
            begin(where, false);
            return loafValue(loaf, LOAVES);
        }

        int freshResult(State where, int loaf) {
            begin(where, true);
            return loafValue(loaf, LOAVES);
        }

        int shelvesOfFresh(State where, int loaf) {
            begin(where, true);
            loafValue(loaf, LOAVES);
            return shelvesSeen;
        }

        boolean wouldFit(State where, Memory memory) {
            begin(where, true);
            for (int i = 0; i < memory.lookCount; i++) {
                if (memory.values[i] != valueNow(memory.looks[i], memory.loaf)) {
                    return false;
                }
            }
            return true;
        }

        private void begin(State where, boolean withoutMemories) {
            state = where;
            freshly = withoutMemories;
            shelvesSeen = 0;
            Arrays.fill(freshValues, UNKNOWN);
        }

        // The bound falls with every loaf that is asked for by another, and ends the recursion.
        private int loafValue(int loaf, int bound) {
            if (loaf < 0 || loaf >= bound || loaf >= LOAVES) {
                return POISON;
            }
            Recipe own = state.recipes[loaf];
            if (own == null) {
                return POISON;
            }
            return freshly ? freshValue(loaf, own) : rememberedValue(loaf, own);
        }

        // Shelves stand still meanwhile, so a second baking would only give the first one's value.
        private int freshValue(int loaf, Recipe own) {
            if (freshValues[loaf] == UNKNOWN) {
                freshValues[loaf] = reckon(loaf, own);
            }
            return freshValues[loaf];
        }

        private int rememberedValue(int loaf, Recipe own) {
            int place = fittingMemory(loaf);
            if (place >= 0) {
                Memory fitting = state.memories[place];
                state.use(place);
                state.givenAgain[loaf]++;
                state.stepsSaved += fitting.steps;
                return fitting.result;
            }
            int result = reckon(loaf, own);
            Memory draft = drafts[loaf];
            draft.result = result;
            state.baked[loaf]++;
            state.stepsMade += draft.steps;
            if (result != POISON || state.settings[KEEP] == 1) {
                state.keepMemory(draft);
            }
            return result;
        }

        // The place of the first memory of a loaf that fits, below 0 if none does. Asking for what was
        // looked at may forget memories and move others, so they are gone through by their serials.
        private int fittingMemory(int loaf) {
            int[] own = serials[loaf];
            int number = state.serialsOf(loaf, own);
            for (int i = 0; i < number; i++) {
                int place = state.placeOfSerial(own[i]);
                if (place >= 0 && isAsItWas(state.memories[place], own[i])) {
                    return state.placeOfSerial(own[i]);
                }
            }
            return -1;
        }

        private boolean isAsItWas(Memory memory, int serial) {
            for (int i = 0; i < memory.lookCount; i++) {
                int value = valueNow(memory.looks[i], memory.loaf);
                if (memory.serial != serial || memory.values[i] != value) {
                    return false;
                }
            }
            return true;
        }

        private int valueNow(int seen, int loaf) {
            if (seen >= FIRST_LOAF_LOOK) {
                return loafValue(seen - FIRST_LOAF_LOOK, loaf);
            }
            boolean clean = isShelf(seen) && bitOf(state.poisoned, seen) == 0;
            return clean ? state.numbers[seen] : POISON;
        }

        private int lookedUp(int seen, Memory draft) {
            int place = draft.placeOfLook(seen);
            if (place >= 0) {
                return draft.values[place];
            }
            if (isShelf(seen)) {
                shelvesSeen |= 1 << seen;
            }
            int value = valueNow(seen, draft.loaf);
            draft.addLook(seen, value);
            return value;
        }

        // Orders go on forwards only, so there are no more turns than orders.
        private int reckon(int loaf, Recipe own) {
            Memory draft = drafts[loaf];
            draft.begin(loaf);
            int[] pile = piles[loaf];
            int height = 0;
            int at = 0;
            for (int turn = 0; turn < own.length && at < own.length; turn++) {
                int order = own.orders[at];
                int operand = own.operands[at];
                at++;
                if (order == Recipe.SKIP) {
                    at = Math.max(at, operand);
                    continue;
                }
                draft.steps++;
                if (order == Recipe.LOOK || order == Recipe.NUMBER) {
                    int value = order == Recipe.LOOK ? lookedUp(operand, draft) : operand;
                    if (value == POISON || height >= pile.length) {
                        return POISON;
                    }
                    pile[height] = value;
                    height++;
                } else if (order == Recipe.CHOICE && height >= 1) {
                    height--;
                    at = pile[height] == 0 ? Math.max(at, operand) : at;
                } else if (height >= 2) {
                    height--;
                    pile[height - 1] = joined(order, pile[height - 1], pile[height]);
                }
            }
            return height >= 1 ? pile[height - 1] : POISON;
        }

        private static int joined(int order, int first, int second) {
            switch (order) {
                case Recipe.SUM:
                    return (first + second) % NUMBERS;
                case Recipe.DIFFERENCE:
                    return (first - second + NUMBERS) % NUMBERS;
                default:
                    return first * second % NUMBERS;
            }
        }
    }
}
