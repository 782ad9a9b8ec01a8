import com.sun.management.ThreadMXBean;
import java.lang.management.ManagementFactory;

/**
 * The room of one run: each object and each field takes more than a byte, so a run that takes fewer bytes than
 * there may be fields makes neither too many objects nor too many fields.
 */
public final class RoomTest {
    private static final int CALLS = 512;
    private static final long MOST_FIELDS = 7_300_000;
    private static final long LEAST_BYTES_OF_AN_OBJECT = 16;
    private static final long MOST_OBJECTS = 600_000;

    private interface Run {
        void on(MillstreamPayments x);
    }

    public static void main(String[] args) {
        room("days with interest on each account", RoomTest::daysBelow0);
        room("doubles", RoomTest::doubles);
        room("sums of a long book", RoomTest::sums);
        room("sets of 60", RoomTest::sets);
        Checks.end();
    }

    private static void room(String what, Run run) {
        // The first time, what the machine itself makes for the classes would count.
        run.on(new MillstreamPayments());
        long before = bytes();
        run.on(new MillstreamPayments());
        long taken = bytes() - before;
        Checks.due(what + ": counted", taken > 0, true);
        Checks.due(what + ": " + taken + " bytes", taken < Math.min(MOST_FIELDS, MOST_OBJECTS * LEAST_BYTES_OF_AN_OBJECT), true);
    }

    private static long bytes() {
        ThreadMXBean threads = (ThreadMXBean) ManagementFactory.getThreadMXBean();
        return threads.getThreadAllocatedBytes(Thread.currentThread().getId());
    }

    /** 30 calls put all accounts below 0 but one of each currency; each of the other days has 15 entries. */
    private static void daysBelow0(MillstreamPayments x) {
        for (int currency = 0; currency < 3; currency++) {
            for (int bank = 1; bank < 6; bank++) {
                x.line(bank, currency, 1000000);
                x.send(bank, currency, 0, currency, 1000000, 0, 0, true, 0, true);
            }
        }
        for (int call = 30; call < CALLS; call++) {
            x.endDay();
        }
        Checks.due("entries of the days", x.entries() > 15 * (CALLS - 30), true);
    }

    private static void doubles(MillstreamPayments x) {
        for (int call = 0; call < CALLS; call++) {
            x.send(0, 99, 1, 2, 5, 19, 2, true, 999, false);
        }
        Checks.due("doubles", x.doubles(), CALLS - 1);
    }

    private static void sums(MillstreamPayments x) {
        for (int call = 0; call < CALLS / 2; call++) {
            x.fund(5, 2, 1000000);
        }
        for (int call = 0; call < CALLS / 2; call++) {
            x.accountAnew(5, 2);
        }
    }

    /** Sixty payments in rings, each pair with a limit of 0: each offset takes the whole set apart. */
    private static void sets(MillstreamPayments x) {
        for (int i = 0; i < 60; i++) {
            x.send(i % 6, i / 6, (i + 1) % 6, 0, 1 + i % 7, 0, i % 3, true, 0, true);
        }
        for (int bank = 0; bank < 6; bank++) {
            x.limit(bank, (bank + 1) % 6, 0, 0);
        }
        for (int call = 66; call < CALLS; call++) {
            x.offset(0);
        }
        Checks.due("none settles", x.entries(), 0);
    }
}
