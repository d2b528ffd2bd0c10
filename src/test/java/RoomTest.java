import java.lang.reflect.Method;

/**
 * All calls of one run live in one room of some 600,000 objects and 7.3 million fields (of 4 bytes), which 512 calls
 * share: counted are the bytes that each kind of call makes, where the machine can tell them.
 */
public final class RoomTest {
    private static final Check check = new Check("RoomTest");
    private static final int CALLS = 100;
    private static final int BYTES_OF_A_CALL = 7_300_000 * 4 / 512;
    private static final int BYTES_OF_AN_OBJECT = 1_000_000;

    private static Object counter;
    private static Method counted;

    public static void main(String[] args) {
        try {
            counter = Class.forName("java.lang.management.ManagementFactory").getMethod("getThreadMXBean").invoke(null);
            counted = Class.forName("com.sun.management.ThreadMXBean").getMethod("getThreadAllocatedBytes", long.class);
            if (bytes() > 0) {
                anObject();
                calls();
            }
        } catch (ReflectiveOperationException e) {
            System.out.println("RoomTest: this machine does not count what is made");
        }
        check.end();
    }

    private static long bytes() throws ReflectiveOperationException {
        return (Long) counted.invoke(counter, Thread.currentThread().getId());
    }

    private static void anObject() throws ReflectiveOperationException {
        new ThirteenthDay();
        long before = bytes();
        new ThirteenthDay();
        long made = bytes() - before;
        check.is("an object of " + made + " bytes is small", true, made < BYTES_OF_AN_OBJECT);
    }

    private static void calls() throws ReflectiveOperationException {
        isSmall("pass", x -> x.many(0) < 2880 ? x.pass(1) : 0);
        isSmall("plan and drop", x -> x.plan(3, x.many(0)) + x.drop(3));
        isSmall("could", x -> x.could(2, 100));
        isSmall("change", x -> x.aim(0, 2, 0) + x.change(0) + x.aim(0, 2, 1) + x.change(0));
        isSmall("variant", x -> x.variant(2, 0));
        isSmall("supply", x -> x.many(8) < 6 ? x.supply(0, 2000) : 0);
        isSmall("bridge", x -> x.bridge(3) ? 1 : 0);
        isSmall("tell", x -> x.tell(4).length());
        isSmall("waits", x -> x.waits(5));
        isSmall("forecast", x -> x.forecast(0, 21));
        isSmall("balance", x -> x.balance(0, 21));
        isSmall("isSound", x -> x.isSound() ? 1 : 0);
        isSmall("digest", x -> (int) x.digest());
    }

    private interface Call {
        int of(ThirteenthDay x);
    }

    private static void isSmall(String what, Call call) throws ReflectiveOperationException {
        ThirteenthDay x = new ThirteenthDay();
        Worlds.busy(x);
        x.drop(3);
        call.of(x);
        long before = bytes();
        for (int k = 0; k < CALLS; k++) {
            call.of(x);
        }
        long made = bytes() - before;
        check.is(what + " makes " + made + " bytes, " + CALLS + " times", true, made < CALLS * BYTES_OF_A_CALL);
    }
}
