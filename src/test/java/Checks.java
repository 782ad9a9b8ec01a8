import java.util.ArrayList;
import java.util.List;

/** What the tests share: a count of wrong answers, looks at what a call throws, and a picture of an object. */
final class Checks {
    private static int wrong = 0;
    private static String test = "";

    private Checks() {
    }

    /** What follows is told as of this test. */
    static void begin(String name) {
        test = name + ": ";
    }

    static void due(String what, long got, long want) {
        if (got != want) {
            wrong++;
            System.out.println(test + what + ": answered " + got + ", due is " + want);
        }
    }

    static void due(String what, boolean got, boolean want) {
        due(what, got ? 1 : 0, want ? 1 : 0);
    }

    static void due(String what, List<Long> got, List<Long> want) {
        if (!got.equals(want)) {
            wrong++;
            System.out.println(test + what + ": answered " + got + ", due is " + want);
        }
    }

    /** The call throws IndexOutOfBoundsException and changes nothing. */
    static void index(String what, MillstreamPayments x, Runnable call) {
        refused(what, x, call, IndexOutOfBoundsException.class);
    }

    /** The call throws IllegalArgumentException and changes nothing. */
    static void argument(String what, MillstreamPayments x, Runnable call) {
        refused(what, x, call, IllegalArgumentException.class);
    }

    /** The call throws IllegalStateException and changes nothing. */
    static void state(String what, MillstreamPayments x, Runnable call) {
        refused(what, x, call, IllegalStateException.class);
    }

    private static void refused(String what, MillstreamPayments x, Runnable call, Class<?> want) {
        List<Long> before = picture(x);
        Class<?> got = null;
        try {
            call.run();
        } catch (RuntimeException e) {
            got = e.getClass();
            // A list of the library throws the same exception, where the class has to throw its own.
            due(what + ": thrown by the class itself",
                    e.getStackTrace()[0].getClassName().startsWith("MillstreamPayments"), true);
        }
        if (got != want) {
            wrong++;
            System.out.println(test + what + ": threw " + got + ", due is " + want);
        }
        if (!picture(x).equals(before)) {
            wrong++;
            System.out.println(test + what + ": changed something");
        }
    }

    /** All that can be asked without a change. */
    static List<Long> picture(MillstreamPayments x) {
        List<Long> all = new ArrayList<>();
        all.add((long) x.today());
        all.add((long) x.doubles());
        for (int currency = 0; currency < 3; currency++) {
            for (int bank = 0; bank < 7; bank++) {
                all.add(x.account(bank, currency));
                all.add(x.accountAnew(bank, currency));
            }
            for (int bank = 0; bank < 6; bank++) {
                for (int other = 0; other < 6; other++) {
                    all.add(x.paid(bank, other, currency));
                }
                all.addAll(queue(x, bank, currency));
            }
        }
        all.add((long) x.payments());
        for (int i = 0; i < x.payments(); i++) {
            all.add((long) x.stateOf(i));
        }
        all.addAll(book(x, 0));
        return all;
    }

    static List<Long> queue(MillstreamPayments x, int bank, int currency) {
        List<Long> all = new ArrayList<>();
        for (int place = 0; x.queueAt(bank, currency, place) != MillstreamPayments.NONE; place++) {
            all.add((long) x.queueAt(bank, currency, place));
        }
        return all;
    }

    /** The entries from one of them on, each as five numbers. */
    static List<Long> book(MillstreamPayments x, int from) {
        List<Long> all = new ArrayList<>();
        for (int entry = from; entry < x.entries(); entry++) {
            for (int what = 0; what < 5; what++) {
                all.add(x.entryAt(entry, what));
            }
        }
        return all;
    }

    static List<Long> states(MillstreamPayments x) {
        List<Long> all = new ArrayList<>();
        for (int i = 0; i < x.payments(); i++) {
            all.add((long) x.stateOf(i));
        }
        return all;
    }

    static List<Long> advices(MillstreamPayments x, int bank) {
        List<Long> all = new ArrayList<>();
        for (int next = x.advice(bank); next != MillstreamPayments.NONE; next = x.advice(bank)) {
            all.add((long) next);
        }
        return all;
    }

    static List<Long> list(long... values) {
        List<Long> all = new ArrayList<>();
        for (long value : values) {
            all.add(value);
        }
        return all;
    }

    /** The end of each main: exit code 1 if an answer was wrong. */
    static void end() {
        System.out.println(wrong == 0 ? "all answers are as due" : wrong + " answers are not as due");
        if (wrong != 0) {
            System.exit(1);
        }
    }
}
