import com.sun.management.ThreadMXBean;
import java.lang.management.ManagementFactory;

/** An object is used for at most 512 calls: the last of them is answered as the first, and the room is kept. */
public final class LifetimeTest {
    private static final int CALLS = 512;
    /** Far below the room that LANGUAGE.md speaks of, which all objects of a run share. */
    private static final long BYTES = 1000000;

    public static void main(String[] args) {
        ticksOnly();
        restoresOnly();
        dearestCalls();
        Check.end("LifetimeTest");
    }

    private static void ticksOnly() {
        Check.sentence("An object is used for at most 512 calls after it has been made");
        CrowdSimulator crowd = new CrowdSimulator();
        for (int call = 1; call <= CALLS; call++) {
            Check.same("18: call " + call, crowd.tick(50), 50 * call);
        }
    }

    private static void restoresOnly() {
        CrowdSimulator crowd = new CrowdSimulator();
        crowd.add(3, 3, -1, 0);
        crowd.save();
        for (int call = 3; call <= CALLS; call++) {
            Check.same("31: call " + call, crowd.restore(), 1);
        }
    }

    /** Sixteen agents that push and wait; each cost makes all fields unknown, each forecast runs for 100 ticks. */
    private static void dearestCalls() {
        CrowdSimulator crowd = new CrowdSimulator();
        crowd.setGoal(0, 13, 9);
        crowd.setGoal(1, 0, 0);
        for (int agent = 0; agent < 16; agent++) {
            crowd.add(3 + agent % 8, 4 + agent / 8, agent % 2, agent % 10);
        }
        int calls = 18;
        for (int leader = 0; leader < 4; leader++) {
            crowd.join(8 + leader, leader, leader - 2, 3);
            crowd.join(12 + leader, leader, 3, leader - 2);
            calls += 2;
        }
        long before = allocated();
        int answers = 0;
        for (; calls < CALLS - 1; calls += 2) {
            crowd.setCell(calls % 14, 2 + calls % 7, 1 + calls % 9);
            try {
                crowd.forecast(calls / 2 % 16);
            } catch (java.util.NoSuchElementException e) {
                answers++;
            }
        }
        Check.same("20: the room of 512 calls", allocated() - before < BYTES ? 1 : 0, 1);
        Check.same("20: a forecast changes nothing", crowd.agents(0), 65535);
        Check.same("20: some forecasts go on for 100 ticks", answers > 0 ? 1 : 0, 1);
    }

    private static long allocated() {
        ThreadMXBean threads = (ThreadMXBean) ManagementFactory.getThreadMXBean();
        return threads.isThreadAllocatedMemorySupported() && threads.isThreadAllocatedMemoryEnabled()
            ? threads.getThreadAllocatedBytes(Thread.currentThread().getId()) : 0;
    }
}
