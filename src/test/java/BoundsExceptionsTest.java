/** The boundary cases of the document's exceptions. Each test names its sentence. */
public final class BoundsExceptionsTest extends Bounds {
    private static final int[] FAR = {Integer.MIN_VALUE, Integer.MIN_VALUE + 1, -1000000, Integer.MAX_VALUE - 1,
        Integer.MAX_VALUE, 1 << 20, 1 << 30, 715827883, 1431655766, -1431655765};

    public static void main(String[] args) throws ReflectiveOperationException {
        runAll(BoundsExceptionsTest.class);
    }

    /** Terms: "Final is final; nobody goes beyond a limit; each payment ends once." */
    static void endsOnce() {
        Made made = () -> {
            MillstreamPayments x = new MillstreamPayments();
            x.fund(0, 0, 5);
            real(x, 0, 0, 1, 5);
            paying(x, 1, 0, 0, 1, 5);
            paying(x, 1, 1, 0, 1, 5);
            x.withdraw(1);
            return x;
        };
        for (int payment = 0; payment < 2; payment++) {
            int ended = payment;
            refused("withdraw", STATE, made, x -> x.withdraw(ended));
            refused("refuse", STATE, made, x -> x.refuse(ended));
            refused("release", STATE, made, x -> x.release(ended, 0));
            refused("join", STATE, made, x -> x.join(ended, 2));
            refused("join, the other one", STATE, made, x -> x.join(2, ended));
        }
        refused("recall of a RETURNED one", STATE, made, x -> x.recall(1));
        taken("recall of a FINAL one", made, x -> x.recall(0));
        MillstreamPayments x = made.anew();
        due("a listed name holds none of them", x.list(1, true), 1);
        x.fund(1, 1, 100);
        x.offset(0);
        endDays(x, 3);
        due("they stay what they are", x.stateOf(0) * 10 + x.stateOf(1), FINAL * 10 + RETURNED);
        due("and pay once", x.account(1, 0), 5);
    }

    /** Exceptions: "IndexOutOfBoundsException: there is no such bank, currency, name, officer, message, payment or entry." */
    static void nothingSuch() {
        for (int far : FAR) {
            refused("bank " + far, INDEX, Bounds::busy, x -> x.out(far, true));
            refused("bank of an account " + far, INDEX, Bounds::busy, x -> x.account(far, 0));
            refused("currency " + far, INDEX, Bounds::busy, x -> x.fund(0, far, 1));
            refused("currency of a holiday " + far, INDEX, Bounds::busy, x -> x.holiday(far, 1, true));
            refused("name " + far, INDEX, Bounds::busy, x -> x.list(far, true));
            refused("officer " + far, INDEX, Bounds::busy, x -> x.release(4, far));
            refused("message " + far, INDEX, Bounds::busy, x -> x.send(0, far, 1, 0, 1, 1, 0, true, 1, true));
            refused("payment " + far, INDEX, Bounds::busy, x -> x.withdraw(far));
            refused("entry " + far, INDEX, Bounds::busy, x -> x.entryAt(far, 0));
        }
        int entries = busy().entries();
        int payments = busy().payments();
        taken("the last bank", Bounds::busy, x -> x.out(5, true));
        taken("the last currency", Bounds::busy, x -> x.fund(0, 2, 1));
        taken("the last name", Bounds::busy, x -> x.list(19, true));
        taken("the last officer", Bounds::busy, x -> x.release(4, 3));
        taken("the last message", Bounds::busy, x -> x.send(0, 99, 1, 0, 1, 1, 0, true, 1, true));
        taken("the last payment", Bounds::busy, x -> x.stateOf(payments - 1));
        refused("one beyond the last payment", INDEX, Bounds::busy, x -> x.stateOf(payments));
        taken("the last entry", Bounds::busy, x -> x.entryAt(entries - 1, 0));
        refused("one beyond the last entry", INDEX, Bounds::busy, x -> x.entryAt(entries, 0));
    }

    /** Exceptions: "IllegalArgumentException: another argument is out of its range, or two banks are the same." */
    static void outOfRange() {
        for (int far : FAR) {
            refused("amount brought " + far, ARGUMENT, Bounds::busy, x -> x.fund(0, 0, far));
            refused("line " + far, ARGUMENT, Bounds::busy, x -> x.line(0, 0, far));
            refused("limit " + far, ARGUMENT, Bounds::busy, x -> x.limit(0, 1, 0, far));
            refused("day " + far, ARGUMENT, Bounds::busy, x -> x.holiday(0, far, true));
            refused("amount " + far, ARGUMENT, Bounds::busy,
                    x -> x.send(0, 50, 1, 0, far, 1, 0, true, 1, true));
            refused("rank " + far, ARGUMENT, Bounds::busy, x -> x.send(0, 50, 1, 0, 1, 1, far, true, 1, true));
            refused("day of a payment " + far, ARGUMENT, Bounds::busy,
                    x -> x.send(0, 50, 1, 0, 1, 1, 0, true, far, true));
            refused("what " + far, ARGUMENT, Bounds::busy, x -> x.entryAt(0, far));
            refused("from " + far, ARGUMENT, Bounds::busy, x -> x.again(1, far));
        }
        for (int bank = 0; bank < 6; bank++) {
            int same = bank;
            refused("a limit for itself", ARGUMENT, Bounds::busy, x -> x.limit(same, same, 0, 1));
            refused("a payment to itself", ARGUMENT, Bounds::busy,
                    x -> x.send(same, 50, same, 0, 1, 1, 0, true, 1, true));
            taken("a limit for the next one", Bounds::busy, x -> x.limit(same, (same + 1) % 6, 0, 1));
            taken("what it paid itself", Bounds::busy, x -> x.paid(same, same, 0));
        }
    }

    private static MillstreamPayments fundedTwice() {
        MillstreamPayments x = new MillstreamPayments();
        x.fund(0, 0, 1000000);
        x.fund(0, 0, 1000000);
        return x;
    }

    /** Exceptions: "If several exceptions of a throws clause apply, the one that is listed first is thrown." */
    static void firstListed() {
        refused("fund", INDEX, Bounds::busy, x -> x.fund(6, 0, 0));
        refused("fund, the last one that is an index", INDEX, Bounds::busy, x -> x.fund(0, 3, 1000001));
        refused("line", INDEX, Bounds::busy, x -> x.line(-1, 0, -1));
        refused("line, the last index", INDEX, Bounds::busy, x -> x.line(0, -1, 1000001));
        refused("limit, both the same and none", INDEX, Bounds::busy, x -> x.limit(6, 6, 0, -2));
        refused("limit, both the same and a wrong currency", INDEX, Bounds::busy, x -> x.limit(1, 1, 3, 0));
        refused("limit, the other one and the limit", INDEX, Bounds::busy, x -> x.limit(0, 6, 0, -2));
        refused("holiday", INDEX, Bounds::busy, x -> x.holiday(3, 1000, true));
        refused("send: index and argument", INDEX, Bounds::busy, x -> x.send(0, 50, 1, 0, 0, 20, 3, true, -1, true));
        refused("send: the same bank twice, that is none", INDEX, Bounds::busy,
                x -> x.send(6, 50, 6, 0, 1, 1, 0, true, 1, true));
        refused("send: the same bank and a wrong message", INDEX, Bounds::busy,
                x -> x.send(1, 100, 1, 0, 1, 1, 0, true, 1, true));
        refused("send: index and state, out", INDEX, Bounds::busy, x -> x.send(3, 50, 1, 3, 1, 1, 0, true, 1, true));
        refused("send: argument and state, out", ARGUMENT, Bounds::busy,
                x -> x.send(3, 50, 1, 0, 1, 1, 0, true, 1000, true));
        refused("send: argument and state, another message", ARGUMENT, Bounds::busy,
                x -> x.send(0, 0, 1, 0, 0, 1, 0, true, 0, true));
        refused("send: index and state, another message", INDEX, Bounds::busy,
                x -> x.send(0, 0, 1, 0, 100, 20, 0, true, 0, true));
        refused("send: index and state, 60", INDEX, () -> withPayments(60),
                x -> x.send(0, 50, 1, 0, 1, -1, 0, true, 0, true));
        refused("send: argument and state, 60", ARGUMENT, () -> withPayments(60),
                x -> x.send(0, 50, 1, 0, 1, 1, 3, true, 0, true));
        refused("join: index and state", INDEX, Bounds::busy, x -> x.join(0, 13));
        refused("join: state and index", INDEX, Bounds::busy, x -> x.join(-1, 0));
        refused("join: none twice", INDEX, Bounds::busy, x -> x.join(13, 13));
        refused("release: FINAL, and no such officer", INDEX, Bounds::busy, x -> x.release(0, 4));
        refused("release: no such payment, and officer", INDEX, Bounds::busy, x -> x.release(13, 4));
        refused("entryAt", INDEX, Bounds::busy, x -> x.entryAt(-1, 5));
        refused("entryAt, the last one", INDEX, Bounds::busy, x -> x.entryAt(x.entries(), -1));
        refused("again", INDEX, Bounds::busy, x -> x.again(6, -1));
        refused("again, too many", INDEX, Bounds::busy, x -> x.again(-1, 61));
    }

    /** Exceptions: "A call that throws an exception changes nothing." */
    static void changesNothing() {
        refused("a message refused is none that was sent", STATE, () -> withPayments(60), x -> real(x, 0, 50, 1, 1));
        MillstreamPayments x = withPayments(0);
        for (int message = 0; message < 100; message++) {
            int number = message;
            refused("refused by its rank", ARGUMENT, BoundsExceptionsTest::fundedTwice,
                    y -> y.send(0, number, 1, 0, 1, 1, 3, true, 0, true));
        }
        MillstreamPayments y = busy();
        for (int i = 0; i < 3; i++) {
            due("not alike, whatever often", refusals(y), 6);
        }
        due("doubles", y.doubles(), 1);
        due("then all goes on", y.send(0, 50, 1, 0, 1, 1, 0, true, 1, true), 13);
        due("nothing of another object", x.payments(), 0);
    }

    private static int refusals(MillstreamPayments x) {
        Call[] calls = {y -> y.send(0, 0, 1, 0, 101, 1, 0, true, 0, true), y -> y.send(3, 5, 1, 0, 1, 1, 0, true, 1, true),
            y -> y.join(3, 4), y -> y.release(3, 0), y -> y.recall(1), y -> y.answer(2, true)};
        int refused = 0;
        for (Call call : calls) {
            try {
                call.on(x);
            } catch (IllegalStateException e) {
                refused++;
            }
        }
        return refused;
    }

    /** Exceptions: "IllegalStateException: as the method says." */
    static void asTheMethodSays() {
        refused("send, out", STATE, Bounds::busy, x -> x.send(3, 50, 1, 0, 1, 1, 0, true, 1, true));
        refused("send, not alike", STATE, Bounds::busy, x -> x.send(0, 0, 1, 0, 99, 1, 0, true, 0, true));
        refused("join, of one currency", STATE, Bounds::busy, x -> x.join(6, 10));
        refused("withdraw, FINAL", STATE, Bounds::busy, x -> x.withdraw(12));
        refused("release, the same officer", STATE, Bounds::busy, x -> x.release(3, 0));
        refused("refuse, WAITING", STATE, Bounds::busy, x -> x.refuse(5));
        refused("recall, twice", STATE, Bounds::busy, x -> x.recall(0));
        refused("answer, twice", STATE, Bounds::busy, x -> x.answer(1, true));
        refused("endDay, on the day 998", STATE, () -> {
            MillstreamPayments x = new MillstreamPayments();
            endDays(x, 998);
            return x;
        }, x -> x.endDay());
    }
}
