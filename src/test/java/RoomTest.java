import java.lang.management.ManagementFactory;

/** No call but sale makes anything, so that all calls of a run find room; and the dearest calls end soon. */
public final class RoomTest {
    private static final Due due = new Due();
    private static final int CALLS = 500;

    public static void main(String[] args) {
        com.sun.management.ThreadMXBean threads = (com.sun.management.ThreadMXBean) ManagementFactory.getThreadMXBean();
        long id = Thread.currentThread().getId();
        String truths = ";t 60 9 2 2 2 2 2;t 41 9 6 1 1 1 1;t 33 4 1 1 1 1 6;t 8 9 1 6 1 1 1".repeat(2);
        SorryToWin x = Due.with("s 5" + truths + ";n 4;w 1");
        x.table();
        calls(x, 3);
        threads.getThreadAllocatedBytes(id);
        long before = threads.getThreadAllocatedBytes(id);
        calls(x, CALLS);
        long made = threads.getThreadAllocatedBytes(id) - before;
        due.is("made little (" + made + " bytes)", made < 100000, true);
        before = threads.getThreadAllocatedBytes(id);
        x = Due.with("s 5" + truths + ";n 4;w 1");
        made = threads.getThreadAllocatedBytes(id) - before;
        due.is("a new object is small (" + made + " bytes)", made < 200000, true);
        due.close("RoomTest");
    }

    private static void calls(SorryToWin x, int times) {
        for (int n = 0; n < times; n++) {
            x.seat(0, n % 4, n % 3 - 2);
            x.change(0, 2, n % 3);
            x.find(0, 0);
            x.judge(0);
            x.bar(0, n % 2 == 0);
            x.telling(0);
            x.asOne(0);
            x.nearGain(0);
            x.cases(0, 1);
            x.won(0, 0, 0, 0);
            x.less(0, 0, 0, 0);
            x.by(0, 4, true, 0);
            x.open(0, 0);
            x.leaves(0, 0, 0);
            x.learn(0, n, 400);
            x.fault();
            x.worth(0, 0, 1, 2, 3, 0);
        }
    }
}
