import java.lang.management.ManagementFactory;

/** A whole run of dear calls stays far inside the one room that a run has. */
public final class RoomTest {
    // A round is at most two calls, and a desk is promised to serve for 512.
    private static final int ROUNDS = 240;
    // 7.3 million fields and elements are the room; a tenth of it, at eight bytes each.
    private static final long MOST_BYTES = 730000L * 8L;

    private static int wrong = 0;

    public static void main(String[] args) {
        run("put");
        run("times");
        run("show");
        run("new");
        System.out.println(wrong == 0 ? "all runs have room" : wrong + " runs are not as due");
        if (wrong != 0) {
            System.exit(1);
        }
    }

    /** Register 2 is a to the power 5, register 3 the fifth power of a + b + c + d: 56 terms. */
    private static PolyDesk prepared() {
        PolyDesk x = new PolyDesk();
        for (int s = 0; s < 4; s++) {
            x.symbol(1, s);
            x.plus(0, 0, 1);
        }
        x.symbol(1, 0);
        x.constant(2, 1);
        x.constant(3, 1);
        for (int n = 0; n < 5; n++) {
            x.times(2, 2, 1);
            x.times(3, 3, 0);
        }
        x.hypothesis(3);
        return x;
    }

    private static void hold(boolean asDue) {
        if (!asDue) {
            wrong++;
        }
    }

    private static long allocated() {
        return ((com.sun.management.ThreadMXBean) ManagementFactory.getThreadMXBean())
                .getCurrentThreadAllocatedBytes();
    }

    private static void run(String which) {
        PolyDesk x = prepared();
        long before = allocated();
        for (int n = 0; n < ROUNDS; n++) {
            switch (which) {
                case "put" -> hold(x.put(4, 2) == 56);
                case "times" -> hold(x.times(4, 3, 1) == 56);
                case "show" -> {
                    x.part(1, 0, -1, -1, -1);
                    hold(x.show(3, 1) == 1);
                }
                default -> new PolyDesk();
            }
        }
        long bytes = allocated() - before;
        if (bytes > MOST_BYTES) {
            wrong++;
            System.out.println(ROUNDS + " times " + which + " took " + bytes + " bytes");
        }
    }
}
