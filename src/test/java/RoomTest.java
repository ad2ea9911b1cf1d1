import com.sun.management.ThreadMXBean;
import java.lang.management.ManagementFactory;

/** All calls of a run share one room: after the first keep() no call makes any object. */
public final class RoomTest {
    private static final int CALLS = 512;
    private static final int BYTES_OF_ONE = 16_000;
    /** The measuring itself may cost a little; one object a call would cost over 8,000. */
    private static final int SLACK = 2_000;

    public static void main(String[] args) {
        ThreadMXBean bean = (ThreadMXBean) ManagementFactory.getThreadMXBean();
        QuietStairs stairs = null;
        long ofOne = 0;
        // The first rounds load what the machine itself needs; the last one counts.
        for (int round = 0; round < 3; round++) {
            long before = bean.getCurrentThreadAllocatedBytes();
            stairs = new QuietStairs();
            stairs.keep();
            ofOne = bean.getCurrentThreadAllocatedBytes() - before;
            fill(stairs);
        }
        within("an object with what it keeps", ofOne, BYTES_OF_ONE);
        for (int kind = 0; kind < 12; kind++) {
            long before = bean.getCurrentThreadAllocatedBytes();
            for (int i = 0; i < CALLS; i++) {
                call(stairs, kind);
            }
            long ofCalls = bean.getCurrentThreadAllocatedBytes() - before;
            within(CALLS + " calls of kind " + kind, ofCalls, SLACK);
        }
        Script.end();
    }

    private static void within(String what, long bytes, long bound) {
        String text = what + " took " + bytes + " bytes: above " + bound;
        Script.due("room", text, bytes > bound ? 1 : 0, 0);
    }

    private static void fill(QuietStairs stairs) {
        for (int i = 0; i < 8; i++) {
            stairs.party(i % 4, i % 3);
        }
        for (int i = 0; i < 4; i++) {
            stairs.mediator(9, 7);
        }
        for (int i = 0; i < 6; i++) {
            stairs.open(i, i + 1);
        }
        stairs.offer(5, 0, 1);
        stairs.offer(5, 1, 1);
        for (int i = 0; i < 5; i++) {
            stairs.term(5, 0, true, i, 10, 14);
        }
        stairs.keep();
    }

    private static int call(QuietStairs stairs, int kind) {
        switch (kind) {
            case 0:
                return stairs.plan(3);
            case 1:
                return stairs.waits();
            case 2:
                return stairs.hour(5, 4);
            case 3:
                return stairs.breaks(5, 0);
            case 4:
                return stairs.keep();
            case 5:
                return stairs.back();
            case 6:
                return stairs.many(6);
            case 7:
                return stairs.many(10);
            case 8:
                return stairs.strike(5) + stairs.term(5, 0, true, 4, 10, 14);
            case 9:
                return stairs.of(4, 6);
            case 10:
                return stairs.learns(5, 0, 0, true);
            default:
                return stairs.log(5, 1, 3, 4);
        }
    }
}
