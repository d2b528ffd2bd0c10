import java.lang.management.ManagementFactory;

/**
 * All calls of one run live in one room of some 600,000 objects, so that calls make next to nothing: counted are the
 * bytes of 512 calls of each kind; an object is 16 bytes at least.
 */
public final class RoomTest {
    private static final Check check = new Check("RoomTest");
    private static final int CALLS = 512;
    private static final int BYTES_OF_A_CALL = 1000;

    private static final com.sun.management.ThreadMXBean COUNTER =
            (com.sun.management.ThreadMXBean) ManagementFactory.getThreadMXBean();

    public static void main(String[] args) {
        if (COUNTER.isThreadAllocatedMemorySupported() && COUNTER.isThreadAllocatedMemoryEnabled()) {
            anObject();
            calls();
        }
        check.end();
    }

    private static long bytes() {
        return COUNTER.getThreadAllocatedBytes(Thread.currentThread().getId());
    }

    private static void anObject() {
        new ThirteenthDay();
        long before = bytes();
        new ThirteenthDay();
        long made = bytes() - before;
        check.is("an object of " + made + " bytes is small", true, made < 100_000);
    }

    private static void calls() {
        isSmall("pass", x -> x.many(0) < 2880 ? x.pass(1) : 0);
        isSmall("plan and drop", x -> x.plan(3, x.many(0)) + x.drop(3));
        isSmall("could", x -> x.could(2, 100));
        isSmall("change", x -> x.aim(0, 2, 0) + x.change(0) + x.aim(0, 2, 1) + x.change(0));
        isSmall("variant", x -> x.variant(2, 0));
        isSmall("supply", x -> x.many(8) < 6 ? x.supply(0, 2000) : 0);
        isSmall("bridge", x -> x.bridge(3) ? 1 : 0);
        isSmall("tell", x -> x.tell(4).length());
        isSmall("waits", x -> x.waits(5));
        isSmall("forecast", x -> x.forecast(0, 21));
        isSmall("balance", x -> x.balance(0, 21));
        isSmall("isSound", x -> x.isSound() ? 1 : 0);
        isSmall("digest", x -> (int) x.digest());
    }

    private interface Call {
        int of(ThirteenthDay x);
    }

    private static void isSmall(String what, Call call) {
        ThirteenthDay x = new ThirteenthDay();
        Worlds.busy(x);
        x.drop(3);
        call.of(x);
        long before = bytes();
        for (int k = 0; k < CALLS; k++) {
            call.of(x);
        }
        long made = bytes() - before;
        check.is(what + " makes " + made + " bytes in 512 calls", true, made < CALLS * BYTES_OF_A_CALL);
    }
}
