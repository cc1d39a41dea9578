import java.lang.management.ManagementFactory;

/** All calls of a run live in one room: what the dearest calls make is small, and they end soon. */
public final class RoomTest {
    private static final Due D = new Due();
    // 600,000 objects and 7.3 million elements would be far more than this; a run has one object or a few.
    private static final long MOST_BYTES = 1_000_000;

    public static void main(String[] args) {
        ManagementFactory.getThreadMXBean();
        run(new LoafMemory());
        long before = bytes();
        run(new LoafMemory());
        long made = bytes() - before;
        System.out.println(made + " bytes were made by the constructor and 512 dear calls");
        D.holds("few bytes are made", made < MOST_BYTES);
        D.end();
    }

    private static long bytes() {
        return ((com.sun.management.ThreadMXBean) ManagementFactory.getThreadMXBean()).getThreadAllocatedBytes(Thread.currentThread().getId());
    }

    // Each loaf looks at all lower ones, and few memories have room, so that they are forgotten all the time.
    private static void run(LoafMemory x) {
        String[] texts = {"(a*b)", "(#0+(a*b))", "(#1+(#0+(a*b)))", "(#2+(#1+(#0+(a*b))))", "(#3+(#2+(#1+(#0+(a*b)))))", "(#4+(#3+(#2+(#1+(#0+(a*b))))))"};
        for (int loaf = 0; loaf < 6; loaf++) {
            Texts.recipe(x, loaf, texts[loaf]);
        }
        for (int i = 0; i < 66; i++) {
            x.set(LoafMemory.ROOM, 1 + i % 16);
            x.put(0, i);
            D.due("ask", x.ask(5), x.fresh(5));
            x.stepsFor(5);
            x.numberFor(1, 5, 99);
            x.changes(0, 98);
        }
    }
}
