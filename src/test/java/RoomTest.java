import com.sun.management.ThreadMXBean;
import java.lang.management.ManagementFactory;

/** The objects that the calls of one object make leave most of the room that all calls of a run share. */
public final class RoomTest extends Asking {
    /** A twentieth of 7.3 million fields and elements, of 8 bytes each. */
    private static final long MOST_BYTES = 7_300_000L / 20 * 8;
    /** Up to three calls each time, and those that make and put the crates, stay below 512. */
    private static final int CALLS = 150;

    private final ThreadMXBean machine = (ThreadMXBean) ManagementFactory.getThreadMXBean();
    private int sum = 0;

    private RoomTest() {
    }

    public static void main(String[] args) {
        RoomTest test = new RoomTest();
        test.measure("making an object", -1, 1);
        for (int kind = 0; kind <= 11; kind++) {
            test.measure(CALLS + " calls of the kind " + kind, kind, CALLS);
        }
        Due.end("RoomTest");
    }

    private void measure(String name, int kind, int calls) {
        SlatCrates x = deep12();
        long before = machine.getThreadAllocatedBytes(Thread.currentThread().getId());
        for (int call = 0; call < calls; call++) {
            sum += ask(kind < 0 ? new SlatCrates() : x, kind);
        }
        long made = machine.getThreadAllocatedBytes(Thread.currentThread().getId()) - before;
        due(name + " made " + made + " bytes, too many", Math.max(made, MOST_BYTES), MOST_BYTES);
    }

    /** The dearest calls: those that look at all crates, and those that keep a state. */
    private static int ask(SlatCrates x, int kind) {
        switch (kind) {
            case 0: return x.turn(0);
            case 1: return x.put(0, 0);
            case 2: return x.sign(0, 150);
            case 3: return x.crate(11, 10) + x.crate(11, 13);
            case 4: return x.alike(ANY, ANY, ANY, ANY);
            case 5: return x.effort(49, 0) + x.effort(49, 1);
            case 6: return x.nest(0) + x.count(10);
            case 7: return x.count(6) + x.count(9);
            case 8: return x.bestTurn();
            case 9: return x.ifTurned(0, 1);
            case 10: return x.fault() + x.load();
            default: return x.undo() + x.save() + x.restore();
        }
    }
}
