import java.lang.management.ManagementFactory;

/** All calls of a run share one room, so the calls make no objects beside the exceptions that they throw. */
public final class RoomTest {
    private static final String BUSY = "page 8 6;front aaaaaaab aaaaaaab aaaaaaab aaaaaaab aaaaaaab aaaaaaab;"
            + "back baaaaaaa baaaaaaa baaaaaaa baaaaaaa baaaaaaa baaaaaaa;";

    private RoomTest() {
    }

    public static void main(String[] args) {
        run();
        long before = bytesMade();
        run();
        long made = bytesMade() - before;
        Due.same("a run of 500 calls that makes " + made + " bytes is small", made < 100_000, true);
        Due.finish();
    }

    private static void run() {
        LetterCuts x = new LetterCuts();
        Due.setup(x, BUSY);
        Due.told(x, "abababab");
        for (int i = 0; i < 40; i++) {
            x.checksum();
            x.copies();
            x.missing();
            x.fewest();
            x.cutOf(0, 3);
            x.unevenness();
            x.meanSize();
            x.longest(3);
            x.least(1);
            x.cut();
            x.undo();
            x.undo();
        }
    }

    private static long bytesMade() {
        com.sun.management.ThreadMXBean bean =
                (com.sun.management.ThreadMXBean) ManagementFactory.getThreadMXBean();
        return bean.getThreadAllocatedBytes(Thread.currentThread().getId());
    }
}
