import com.sun.management.ThreadMXBean;
import java.lang.management.ManagementFactory;

/** All calls of a run live in one room: an object is small, and its calls make nothing new. */
public final class RoomTest {
    private static final Check CHECK = new Check("RoomTest");
    private static final int OBJECT_BYTES = 64 * 1024;
    // What measuring itself may take; one row made by each call would be far more.
    private static final int CALL_BYTES = 1024;
    private static long sum = 0;

    public static void main(String[] args) {
        ThreadMXBean threads = (ThreadMXBean) ManagementFactory.getThreadMXBean();
        use(new MonotonePostings());
        long start = threads.getCurrentThreadAllocatedBytes();
        MonotonePostings x = new MonotonePostings();
        long made = threads.getCurrentThreadAllocatedBytes();
        use(x);
        long end = threads.getCurrentThreadAllocatedBytes();
        CHECK.same("an object of " + (made - start) + " bytes", made - start < OBJECT_BYTES, true);
        CHECK.same("calls that make " + (end - made) + " bytes", end - made < CALL_BYTES, true);
        CHECK.same("the calls were used", sum != 0, true);
        CHECK.end();
    }

    private static void use(MonotonePostings x) {
        for (int i = 0; i < 16; i++) {
            sum += x.appendRange(0, 0, 3, 60) + x.append(0, 511) + x.appendRange(1, 0, 1, 40);
            sum += x.appendRange(2, 1, 80, 6) + x.size(0) + x.document(0, 60) + x.rank(0, 100);
            sum += x.partitions(0) + x.partition(0, 0, 4) + x.codeLength(0) + x.codeBit(0, 100);
            sum += x.fixedLength(0, 7) + (long) x.bitsPerDocument(0) + x.nextAtLeast(0, 50);
            sum += x.nextAtLeast(2, 50) + x.countIntersection(7) + x.intersect(3, 3);
            sum += x.unite(2, 3, 3) + x.subtract(0, 1, 3) + x.reads() + x.hits() + x.cached();
            sum += x.cachedAt(0) + x.setCapacity(i % 9) + x.undo() + x.digest();
            sum += x.clear(0) + x.clear(1) + x.clear(2) + x.setCapacity(4);
        }
    }
}
