import java.lang.management.ManagementFactory;

/** What the dearest calls of a run make stays far below the room of 7.3 million fields and elements. */
public final class RoomTest {
    /** A fifth of the room, if each field and element took four bytes. */
    private static final long MOST_BYTES = 6000000;

    private static void tell(WalkingBridge x, String text) {
        if (Fed.tell(x, text) < 0) {
            throw new IllegalStateException("fault " + x.fault(0) + " at " + x.fault(1));
        }
    }

    private static int askAll(WalkingBridge x) {
        int sum = x.high(64) + x.creaks(0) + x.lies(32, 3, 20, 0) + x.fewest(32, 20, 0) + x.forbidden(64, 30, 1);
        sum += x.cancel(0, 1, 64) + x.owes(1, 64) + x.pump(3, 50, 7, 1) + x.keeper(3, 50, 5, 40, 1);
        sum += x.groan(63, 1, 5, true) + x.unsay(0) + x.began() + x.set(1) + x.sure(1) + x.fits();
        sum += x.gales(77, 32, 500) + x.tried(4, 0, 64) + x.tried(10, 0, 64) + x.beats(3) + x.was(1) + x.look(0, 3);
        sum += x.fat(1, 1) + x.strike(1, 1) + x.undo() + x.keep() + x.back() + x.count(12) + x.cell(1, 1);
        return sum + (int) x.law(0, 0, 0, 0) + x.named(0, 1 << 25) + x.feed(1, 2, 3, 4, 5) + x.text(3) + x.fault(1);
    }

    public static void main(String[] args) {
        com.sun.management.ThreadMXBean meter = (com.sun.management.ThreadMXBean) ManagementFactory.getThreadMXBean();
        WalkingBridge x = new WalkingBridge();
        tell(x, "bridge 12 4 4;calm 1;hold 900;gale 9;walker a 30 1 0 stay 5;walker b 9 2 1 right;walker c 8 1 2 left;"
                + "fat f 2 9;sleep s 3 9999;may m weight*foot;law push weight+(sway<0)*3;law side 5-time/9;");
        askAll(x);
        long before = meter.getCurrentThreadAllocatedBytes();
        int sum = 0;
        for (int i = 0; i < 14; i++) {
            sum += askAll(x);
        }
        long made = meter.getCurrentThreadAllocatedBytes() - before;
        if (made > MOST_BYTES) {
            System.out.println("the calls of one object took " + made + " bytes (" + sum + ")");
            System.exit(1);
        }
        System.out.println("calls take little room");
    }
}
