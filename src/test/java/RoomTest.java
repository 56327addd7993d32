import java.lang.management.ManagementFactory;

/** All calls of a run share one room: what the class needs is made by its constructor, and used again. */
public final class RoomTest {
    private static final com.sun.management.ThreadMXBean THREADS =
        (com.sun.management.ThreadMXBean) ManagementFactory.getThreadMXBean();
    private static long sum = 0;

    public static void main(String[] args) {
        Due.about("The room of a run");
        // Once ahead of all, as the first run of a method may make something of the machine's own.
        bytesOfARun();
        Due.test("the constructor makes little", RoomTest::constructor);
        Due.test("the calls make next to nothing", RoomTest::calls);
        Due.end();
    }

    private static void constructor() {
        long made = bytesMade();
        FoldedBench x = new FoldedBench();
        made = bytesMade() - made;
        Due.holds("bytes: " + made, x.count(0) == 0 && made < 20_000);
    }

    private static void calls() {
        long made = bytesOfARun();
        Due.holds("bytes: " + made, made < 2_000);
    }

    private static long bytesMade() {
        return THREADS.getThreadAllocatedBytes(Thread.currentThread().getId());
    }

    private static long bytesOfARun() {
        FoldedBench x = new FoldedBench();
        long before = bytesMade();
        sum += x.set(FoldedBench.SEATS, 16);
        for (int i = 0; i < 12; i++) {
            sum += x.cousin() + x.sit(i, i);
        }
        for (int i = 0; i < 40; i++) {
            sum += x.relate(i % 12, (5 * i + 1) % 12, -1) + x.fewestFolds() + x.bestSwap(2) + x.bestFold();
            sum += x.put(0x63L) + x.fault() + x.carryOut() + x.write() + x.wipe() + x.save(0) + x.restore(0) + x.undo();
        }
        return bytesMade() - before;
    }
}
