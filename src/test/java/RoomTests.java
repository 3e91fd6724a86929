import java.lang.management.ManagementFactory;
import java.util.function.Supplier;

/**
 * All calls of a run live in one room: what 512 calls of one kind make, those that are refused among them, and what
 * an object holds, stays far below it.
 */
public final class RoomTests extends Answers {
    private interface Use {
        Object on(PerfgaugeHouse x, int turn);
    }

    private static final int CALLS = 340;
    /** The room is 7.3 million fields and elements, so some 29 million bytes; a run may take a small part of it. */
    private static final long MOST_BYTES = 1_500_000;
    private static final com.sun.management.ThreadMXBean COUNTER =
            (com.sun.management.ThreadMXBean) ManagementFactory.getThreadMXBean();

    private static Object sink;

    public static void main(String[] args) {
        made("a new house", 1, PerfgaugeHouse::new, (x, i) -> new PerfgaugeHouse());
        Supplier<PerfgaugeHouse> full = Houses::full;
        made("frame", CALLS, full, (x, i) -> x.frame(i % 41, i % 2 == 0));
        made("digest", CALLS, full, (x, i) -> x.digest());
        made("isSound", CALLS, full, (x, i) -> x.isSound());
        made("sheet", CALLS, full, (x, i) -> x.sheet(i % 6));
        made("plating", CALLS, full, (x, i) -> x.plating(i % 6, i % 5));
        made("ofPiece", CALLS, full, (x, i) -> x.ofPiece(i % 12, i % 6));
        made("seen", CALLS, full, (x, i) -> x.seen(i % 12, 0, i, i % 2 == 0));
        made("ofCover", CALLS, full, (x, i) -> x.ofCover(i % 12, i % 8));
        made("franking", CALLS, full, (x, i) -> x.franking(i % 12));
        made("road", CALLS, full, (x, i) -> x.road(i % 5, 5, i % 10));
        made("ofSale", CALLS, full, (x, i) -> { x.arrive(i % 8 + 2, i, false); return x.ofSale(i % 7); });
        made("alone", CALLS, full, (x, i) -> x.alone(i % 8, i % 2 == 0));
        made("value", CALLS, full, (x, i) -> x.value(i % 12));
        made("plate", CALLS, full, (x, i) -> { x.plate(2 + i % 5, 2 + i % 3); return x.piece(3, 3, i % 6, true); });
        made("a refused piece", CALLS, full, (x, i) -> answerOf(() -> x.piece(1, 1, 0, false)));
        made("a refused bid", CALLS, full, (x, i) -> answerOf(() -> x.bid(0, 1, 1)));
        end();
    }

    private static void made(String what, int calls, Supplier<PerfgaugeHouse> house, Use use) {
        PerfgaugeHouse x = house.get();
        long before = COUNTER.getCurrentThreadAllocatedBytes();
        for (int turn = 0; turn < calls; turn++) sink = use.on(x, turn);
        long bytes = COUNTER.getCurrentThreadAllocatedBytes() - before;
        compare(what + " makes little (" + bytes + " bytes)", true, bytes < MOST_BYTES);
        if (Boolean.getBoolean("tell")) System.out.println(what + ": " + bytes + " bytes");
    }
}
