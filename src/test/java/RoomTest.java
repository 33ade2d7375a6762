import com.sun.management.ThreadMXBean;
import java.lang.management.ManagementFactory;

/** All calls of a run share one room: an object is small, and its calls make nothing. */
public final class RoomTest {
    private static final int CALLS = 20000;

    private RoomTest() {
    }

    public static void main(String[] args) {
        ThreadMXBean threads = (ThreadMXBean) ManagementFactory.getThreadMXBean();
        long thread = Thread.currentThread().getId();
        BondLayers x = round(new BondLayers());
        long begin = threads.getThreadAllocatedBytes(thread);
        long answers = 0;
        for (int times = 0; times < CALLS; times++) {
            answers += x.digest() + x.worst() + x.ifCalled(0, 50, 0) + x.thin(0) + x.firstError();
            answers += x.bring(0, 1) + x.call(0, 1, 9) + x.reach(0) + x.undo() + x.undo() + x.undo();
        }
        long calls = threads.getThreadAllocatedBytes(thread) - begin;
        Check.dueTrue(CALLS + " rounds of calls made " + calls + " bytes", calls < CALLS);
        long before = threads.getThreadAllocatedBytes(thread);
        BondLayers another = new BondLayers();
        long object = threads.getThreadAllocatedBytes(thread) - before;
        Check.dueTrue("an object takes " + object + " bytes", object < 20000);
        Check.dueTrue("all were answered", answers != another.digest());
        Check.end("RoomTest");
    }

    private static BondLayers round(BondLayers x) {
        x.bring(1, 1000);
        x.bring(2, 1000);
        x.guarantee(0, 3, 50);
        for (int bond = 0; bond < 10; bond++) {
            Check.give(x, "p0s1000:1*300+2*400@1+1l");
        }
        Check.write(x, "p0s1000:1*300+2*400@1+1l");
        return x;
    }
}
