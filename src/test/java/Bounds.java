import java.lang.reflect.InvocationTargetException;
import java.lang.reflect.Method;
import java.util.ArrayList;
import java.util.List;

/**
 * What the tests of boundary cases share: an object in the midst of things, ranges with the neighbours
 * of their ends, and calls that are refused and have to leave an object as it was, down to what only
 * later calls can show.
 */
abstract class Bounds {
    static final int NONE = MillstreamPayments.NONE;
    static final int WAITING = MillstreamPayments.WAITING;
    static final int HELD = MillstreamPayments.HELD;
    static final int QUEUED = MillstreamPayments.QUEUED;
    static final int NETTED = MillstreamPayments.NETTED;
    static final int FINAL = MillstreamPayments.FINAL;
    static final int RETURNED = MillstreamPayments.RETURNED;
    static final Class<?> INDEX = IndexOutOfBoundsException.class;
    static final Class<?> ARGUMENT = IllegalArgumentException.class;
    static final Class<?> STATE = IllegalStateException.class;
    private static final int[] MESSAGES_TRIED = {0, 1, 2, 3, 49, 50, 51, 98, 99};

    interface Made {
        MillstreamPayments anew();
    }

    interface Call {
        void on(MillstreamPayments x);
    }

    interface CallWith {
        void on(MillstreamPayments x, int value);
    }

    interface Answer {
        long of(MillstreamPayments x);
    }

    /** Runs each test of a class, told by its name. */
    static void runAll(Class<?> tests) throws ReflectiveOperationException {
        int run = 0;
        for (Method method : tests.getDeclaredMethods()) {
            if (method.getParameterCount() == 0 && method.getReturnType() == void.class && !method.isSynthetic()) {
                Checks.begin(method.getName());
                method.setAccessible(true);
                try {
                    method.invoke(null);
                } catch (InvocationTargetException e) {
                    Checks.due("threw " + e.getCause(), 1, 0);
                }
                run++;
            }
        }
        System.out.println(run + " boundary cases");
        Checks.end();
    }

    static void due(String what, long got, long want) {
        Checks.due(what, got, want);
    }

    static void due(String what, boolean got, boolean want) {
        Checks.due(what, got, want);
    }

    static void due(String what, List<Long> got, List<Long> want) {
        Checks.due(what, got, want);
    }

    static List<Long> list(long... values) {
        return Checks.list(values);
    }

    /** A real payment of the currency 0, the lowest rank, for today. */
    static int real(MillstreamPayments x, int bank, int message, int to, int amount) {
        return x.send(bank, message, to, 0, amount, 1, 0, true, 0, true);
    }

    /** One for the net of the currency 0. */
    static int net(MillstreamPayments x, int bank, int message, int to, int amount) {
        return x.send(bank, message, to, 0, amount, 1, 0, false, 0, true);
    }

    /** A real payment of any currency. */
    static int paying(MillstreamPayments x, int bank, int message, int to, int currency, int amount) {
        return x.send(bank, message, to, currency, amount, 1, 0, true, 0, true);
    }

    /** So many real payments of 1 of the currency 0 by ten of each bank to the next one: at most 60. */
    static MillstreamPayments withPayments(int many) {
        MillstreamPayments x = new MillstreamPayments();
        for (int i = 0; i < many; i++) {
            real(x, i / 10, i % 10, (i / 10 + 1) % 6, 1);
        }
        return x;
    }

    static void endDays(MillstreamPayments x, int many) {
        for (int i = 0; i < many; i++) {
            x.endDay();
        }
    }

    /** The values at the ends are taken; those one beyond, and the farthest, are refused. */
    static void range(String what, Class<?> refusal, int least, int most, CallWith call) {
        range(what, refusal, least, most, Bounds::busy, call);
    }

    static void range(String what, Class<?> refusal, int least, int most, Made made, CallWith call) {
        for (int value : new int[] {least, least + 1, most - 1, most}) {
            taken(what + " " + value, made, x -> call.on(x, value));
        }
        for (int value : new int[] {least - 1, most + 1, Integer.MIN_VALUE, Integer.MAX_VALUE}) {
            refused(what + " " + value, refusal, made, x -> call.on(x, value));
        }
    }

    static void taken(String what, Made made, Call call) {
        due(what + " is taken, not refused by " + thrown(made.anew(), call), thrown(made.anew(), call) == null, true);
    }

    /** The call throws this, by the class itself, and an object with it goes on as one without it. */
    static void refused(String what, Class<?> refusal, Made made, Call call) {
        for (boolean isByFarthest : new boolean[] {false, true}) {
            MillstreamPayments with = made.anew();
            Class<?> got = thrown(with, call);
            due(what + " is refused by " + refusal.getSimpleName() + ", not " + got, got == refusal, true);
            due(what + " changes nothing", shown(with, isByFarthest).equals(shown(made.anew(), isByFarthest)), true);
        }
    }

    private static Class<?> thrown(MillstreamPayments x, Call call) {
        try {
            call.on(x);
            return null;
        } catch (RuntimeException e) {
            due("thrown by the class itself: " + e,
                    e.getStackTrace()[0].getClassName().startsWith("MillstreamPayments"), true);
            return e.getClass();
        }
    }

    /** All that can be seen of an object, and what many later calls answer. The object is used up by it. */
    private static List<Long> shown(MillstreamPayments x, boolean isByFarthest) {
        List<Long> all = Checks.picture(x);
        showAdvices(x, isByFarthest, all);
        showPayments(x, all);
        showMessages(x, all);
        all.addAll(Checks.picture(x));
        showSettings(x, all);
        for (int day = 0; day < 8; day++) {
            all.add(answer(x, y -> y.endDay()));
            all.addAll(Checks.states(x));
        }
        for (int payment = 0; payment < x.payments(); payment++) {
            int number = payment;
            all.add(answer(x, y -> y.withdraw(number)));
        }
        all.addAll(Checks.picture(x));
        return all;
    }

    /** How far a bank is, or how far it ever was: to ask for the one hides the other. */
    private static void showAdvices(MillstreamPayments x, boolean isByFarthest, List<Long> all) {
        for (int bank = 0; bank < 6; bank++) {
            int of = bank;
            for (int from = isByFarthest ? 61 : -1; from >= 0; from--) {
                int first = from;
                all.add(answer(x, y -> y.again(of, first)));
            }
            all.add(answer(x, y -> y.advice(of)));
            all.add(x.out(bank, false) ? 1L : 0L);
            all.addAll(Checks.advices(x, bank));
        }
    }

    private static void showPayments(MillstreamPayments x, List<Long> all) {
        for (int payment = 0; payment < x.payments(); payment++) {
            int number = payment;
            all.add(answer(x, y -> y.answer(number, false)));
            all.add(answer(x, y -> y.recall(number)));
            all.add(answer(x, y -> y.release(number, 0) ? 1 : 0));
            all.add(answer(x, y -> y.release(number, 3) ? 1 : 0));
        }
    }

    private static void showMessages(MillstreamPayments x, List<Long> all) {
        for (int bank = 0; bank < 6; bank++) {
            for (int tried : MESSAGES_TRIED) {
                int from = bank;
                all.add(answer(x, y -> y.send(from, tried, (from + 1) % 6, tried % 3, 1, tried % 20, 0, true, 0, true)));
            }
        }
    }

    private static void showSettings(MillstreamPayments x, List<Long> all) {
        for (int currency = 0; currency < 3; currency++) {
            for (int bank = 0; bank < 6; bank++) {
                all.add((long) x.line(bank, currency, 0));
                for (int other = 0; other < 6; other++) {
                    if (other != bank) {
                        all.add((long) x.limit(bank, other, currency, NONE));
                    }
                }
            }
        }
    }

    /** What a call answers, or a number far off for what it throws. */
    private static long answer(MillstreamPayments x, Answer call) {
        try {
            return call.of(x);
        } catch (IndexOutOfBoundsException e) {
            return -1001;
        } catch (IllegalArgumentException e) {
            return -1002;
        } catch (IllegalStateException e) {
            return -1003;
        }
    }

    /**
     * On the day 1 with 13 payments: 0 to 2 and 12 FINAL, 3 (released by the officer 0) and 4 HELD,
     * 5 WAITING, 6 to 9 QUEUED, 8 and 9 as legs, 10 NETTED, 11 RETURNED; 0 is recalled, 1 recalled and
     * answered; the bank 3 is out; the banks 1 and 3 took advices.
     */
    static MillstreamPayments busy() {
        MillstreamPayments x = new MillstreamPayments();
        x.fund(0, 0, 1000);
        x.fund(1, 1, 500);
        x.line(3, 0, 50);
        x.line(0, 1, 20);
        x.limit(0, 1, 0, 200);
        x.limit(4, 5, 2, 7);
        x.holiday(1, 2, true);
        x.holiday(2, 1, true);
        x.list(7, true);
        real(x, 0, 0, 1, 100);
        real(x, 0, 1, 2, 50);
        net(x, 0, 2, 3, 30);
        x.endDay();
        x.send(1, 0, 2, 1, 40, 7, 0, true, 1, true);
        x.send(1, 1, 2, 1, 41, 7, 0, true, 1, true);
        x.release(3, 0);
        x.send(2, 0, 3, 2, 10, 1, 2, true, 1, true);
        x.send(4, 0, 5, 0, 25, 1, 1, true, 1, true);
        x.send(4, 1, 5, 0, 26, 1, 2, true, 0, false);
        paying(x, 4, 2, 5, 0, 5);
        paying(x, 5, 0, 4, 1, 6);
        x.join(8, 9);
        net(x, 5, 1, 4, 9);
        paying(x, 3, 0, 1, 1, 9);
        x.withdraw(11);
        real(x, 0, 3, 3, 20);
        x.recall(0);
        x.recall(1);
        x.answer(1, false);
        real(x, 0, 0, 1, 100);
        x.advice(1);
        x.advice(3);
        x.advice(3);
        x.again(3, 1);
        x.out(3, true);
        return x;
    }

    static List<Long> concat(List<Long> one, List<Long> two) {
        List<Long> all = new ArrayList<>(one);
        all.addAll(two);
        return all;
    }
}
