import com.sun.management.ThreadMXBean;
import java.lang.management.ManagementFactory;
import java.util.function.ToLongFunction;

/** All calls of a run share one room: an object is small, and none of its calls makes anything. */
public final class RoomTest {
    private static final int TIMES = 4000;
    private static final String TEXT = "p0s1000:1*300+2*400@1+1l";

    private RoomTest() {
    }

    public static void main(String[] args) {
        ThreadMXBean threads = (ThreadMXBean) ManagementFactory.getThreadMXBean();
        object(threads);
        persons(threads);
        bondsAndTexts(threads);
        looks(threads);
        whatWouldBe(threads);
        Check.end("RoomTest");
    }

    private static void object(ThreadMXBean threads) {
        // the first one brings the classes in
        BondLayers first = new BondLayers();
        long before = threads.getThreadAllocatedBytes(Thread.currentThread().getId());
        BondLayers another = new BondLayers();
        long object = threads.getThreadAllocatedBytes(Thread.currentThread().getId()) - before;
        Check.dueTrue("an object takes " + object + " bytes", object < 20000);
        Check.due("both are alike", another.digest(), first.digest());
    }

    private static void persons(ThreadMXBean threads) {
        dueNothingMade(threads, "bring", x -> x.bring(3, 1) + x.undo());
        dueNothingMade(threads, "takeOut", x -> x.takeOut(1, 1) + x.undo());
        dueNothingMade(threads, "guarantee", x -> x.guarantee(3, 4, 50) + x.undo());
        dueNothingMade(threads, "repay", x -> x.repay(0, 1, 1) + x.undo());
        dueNothingMade(threads, "set", x -> x.set(0, 1) + x.undo());
    }

    private static void bondsAndTexts(ThreadMXBean threads) {
        dueNothingMade(threads, "call", x -> x.call(0, 500, 9) + x.undo());
        dueNothingMade(threads, "reach", x -> x.reach(0) + x.undo());
        dueNothingMade(threads, "end", x -> x.end(0) + x.undo());
        dueNothingMade(threads, "firstError", BondLayers::firstError);
        dueNothingMade(threads, "clearBuffer, append and give", x -> {
            x.undo();
            x.clearBuffer();
            for (int index = 0; index < TEXT.length(); index++) {
                x.append(TEXT.charAt(index));
            }
            int bond = x.give();
            for (int index = 0; index < TEXT.length(); index++) {
                x.append(TEXT.charAt(index));
            }
            return bond;
        });
    }

    private static void looks(ThreadMXBean threads) {
        dueNothingMade(threads, "person", x -> {
            long answers = 0;
            for (int what = 0; what <= 10; what++) {
                answers += x.person(0, what);
            }
            return answers;
        });
        dueNothingMade(threads, "bond", x -> {
            long answers = 0;
            for (int what = 0; what <= 11; what++) {
                answers += x.bond(0, what);
            }
            return answers;
        });
        dueNothingMade(threads, "count", x -> {
            long answers = 0;
            for (int what = 0; what <= 9; what++) {
                answers += x.count(what);
            }
            return answers;
        });
        dueNothingMade(threads, "layer, debt, setting", x -> x.layer(0, 0, 2) + x.debt(0, 1) + x.setting(0));
    }

    private static void whatWouldBe(ThreadMXBean threads) {
        dueNothingMade(threads, "ifCalled", x -> x.ifCalled(0, 500, 0) + x.ifCalled(0, 500, 10));
        dueNothingMade(threads, "thin, worst, spare", x -> x.thin(0) + x.worst() + x.spare(1));
        dueNothingMade(threads, "paidShare", x -> (long) (1000.0 * x.paidShare()));
        dueNothingMade(threads, "digest", BondLayers::digest);
    }

    /** Six states are saved when it is asked, and ten bonds and a text are there. */
    private static void dueNothingMade(ThreadMXBean threads, String calls, ToLongFunction<BondLayers> run) {
        BondLayers x = full();
        long thread = Thread.currentThread().getId();
        long answers = run.applyAsLong(x);
        threads.getThreadAllocatedBytes(thread);
        long before = threads.getThreadAllocatedBytes(thread);
        for (int times = 1; times < TIMES; times++) {
            answers += run.applyAsLong(x);
        }
        long made = threads.getThreadAllocatedBytes(thread) - before;
        // an object takes 16 bytes, so that one a call would be far more than this
        Check.dueTrue(TIMES + " times " + calls + " made " + made + " bytes", made < TIMES);
        Check.dueTrue(calls + " answered " + answers, answers == TIMES * run.applyAsLong(full()));
    }

    private static BondLayers full() {
        BondLayers x = Check.withCash(0, 1000, 1000);
        x.guarantee(0, 3, 50);
        Check.give(x, TEXT);
        x.call(0, 10, 9);
        x.bring(0, 5);
        for (int bond = 1; bond < 10; bond++) {
            Check.give(x, TEXT);
        }
        Check.write(x, TEXT);
        return x;
    }
}
