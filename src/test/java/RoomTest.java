import com.sun.management.ThreadMXBean;
import java.lang.management.ManagementFactory;

/** That the rows are made in the constructor: the calls after it make no objects, exceptions apart. */
public final class RoomTest {
    private static final int CALLS = 512;
    private static final long NEW_OBJECT_BYTES = 150_000;
    /** For what the virtual machine itself books on the thread. */
    private static final long SLACK_BYTES = 4_000;

    private RoomTest() {
    }

    public static void main(String[] args) {
        ThreadMXBean threads = (ThreadMXBean) ManagementFactory.getThreadMXBean();
        useForAWhile(new IrrigationTurns());
        threads.getCurrentThreadAllocatedBytes();
        long start = threads.getCurrentThreadAllocatedBytes();
        IrrigationTurns x = new IrrigationTurns();
        long made = threads.getCurrentThreadAllocatedBytes();
        useForAWhile(x);
        long used = threads.getCurrentThreadAllocatedBytes();
        Check.isTrue("a new object takes " + (made - start) + " bytes", made - start < NEW_OBJECT_BYTES);
        Check.isTrue(CALLS + " calls and more take " + (used - made) + " bytes", used - made < SLACK_BYTES);
        Check.finish();
    }

    /** Example 1 with a guard, and each call of the face. */
    private static void useForAWhile(IrrigationTurns x) {
        long sum = 0;
        for (int i = 0; i < CALLS / 16; i++) {
            x.append(1667329633, 1814049056, 825237554, 808467299, 1634623852);
            x.append(543584879, 1830826016, 840970272, 909123699, 1751216741);
            x.append(540162915, 1634623852, 543584879, 1830826016, 824193056);
            x.append(892350523, 1718183276, 1679831328, 807416624, 540356640);
            x.append(875569205, 997487986, 1847603232, 842757237, 1919819825);
            x.append(540097312, 538976288, 538976288, 538976288, 538976288);
            sum += x.load(103) + x.force(0) + x.run(50) + x.swapTurns(0, 1) + x.errorOffset();
            sum += x.canalCount() + x.fieldCount() + x.clock() + x.cycleLength() + x.turnAt(70) + x.inflow(70);
            sum += x.guardAt() + x.parent(1) + x.waterIn(1, 1) + x.arrived(1) + x.water(0) + x.taken(0) + x.stolen(0);
            sum += x.fines(0) + x.total(1) + x.fairHours(0, 100) + x.hoursUntil(0, 100) + x.expected(1, 100);
            sum += x.suspect(1, 50, -1) + (x.isOpen(0) ? 1 : 0) + (x.isForced(0) ? 1 : 0) + x.checksum() + x.undo();
        }
        Check.isTrue("the sum counts", sum != 0);
    }
}
