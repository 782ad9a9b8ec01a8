/** The boundary cases of the promises 17 to 28. Each test names its promise and its sentence. */
public final class BoundsQuestionsTest extends Bounds {
    public static void main(String[] args) throws ReflectiveOperationException {
        runAll(BoundsQuestionsTest.class);
    }

    private static MillstreamPayments onDay(int day) {
        MillstreamPayments x = new MillstreamPayments();
        x.fund(0, 0, 1000);
        net(x, 0, 0, 1, 5);
        endDays(x, day);
        return x;
    }

    /** Promise 17: "Returns how many payments became FINAL by it, in cut-offs and by running the queues." */
    static void endDayReturns() {
        due("none", new MillstreamPayments().endDay(), 0);
        for (int many : new int[] {1, 2, 58, 59, 60}) {
            MillstreamPayments cut = new MillstreamPayments();
            MillstreamPayments queued = new MillstreamPayments();
            MillstreamPayments both = new MillstreamPayments();
            for (MillstreamPayments x : new MillstreamPayments[] {cut, queued, both}) {
                x.fund(0, 2, 1000);
                x.fund(0, 0, 1000);
            }
            queued.limit(0, 1, 0, 0);
            for (int i = 0; i < many; i++) {
                cut.send(0, i, 1, i % 2 * 2, 1, 1, 0, false, 0, true);
                queued.send(0, i, 1, i % 2 * 2, 1, 1, 0, true, 1, true);
                both.send(0, i, 1, 0, 1, 1, 0, i % 2 == 0, i % 2 == 0 ? 1 : 0, true);
            }
            due("by cut-offs " + many, cut.endDay(), many);
            due("none again", cut.endDay(), 0);
            due("by the queues, but for those at a limit, of " + many, queued.endDay(), many / 2);
            due("by both " + many, both.endDay(), many);
        }
        MillstreamPayments today = new MillstreamPayments();
        today.fund(0, 0, 10);
        real(today, 0, 0, 1, 10);
        due("one that was FINAL ahead of it is none", today.endDay(), 0);
        MillstreamPayments legs = new MillstreamPayments();
        legs.list(7, true);
        real(legs, 0, 0, 1, 10);
        legs.send(1, 0, 0, 1, 10, 7, 0, true, 0, true);
        legs.join(0, 1);
        legs.fund(0, 0, 10);
        due("a leg whose other one is HELD is none", legs.endDay(), 0);
        legs.release(1, 0);
        legs.release(1, 1);
        legs.fund(1, 1, 9);
        due("nor one whose other one lacks 1", legs.endDay(), 0);
        legs.fund(1, 1, 1);
        due("both were FINAL ahead of it", legs.endDay(), 0);
        due("they are", Checks.states(legs), list(FINAL, FINAL));
    }

    /** Promise 17: "Throws IllegalStateException if it is the day 998" */
    static void endDayThrowsState() {
        taken("the day 0", () -> onDay(0), x -> x.endDay());
        taken("the day 997", () -> onDay(997), x -> x.endDay());
        refused("the day 998", STATE, () -> onDay(998), x -> x.endDay());
        MillstreamPayments x = onDay(997);
        x.endDay();
        due("it is the day 998 then", x.today(), 998);
        due("and a payment still settles on it", x.stateOf(real(x, 0, 1, 1, 5)), FINAL);
    }

    /** Promise 18: "Returns today." */
    static void todayReturns() {
        for (int day : new int[] {0, 1, 2, 4, 5, 6, 7, 996, 997, 998}) {
            due("day " + day, onDay(day).today(), day);
        }
        refused("a day that could not end is the same", STATE, () -> onDay(998), x -> x.endDay());
    }

    /** Promise 19: "bank: 0 to 6" */
    static void accountBank() {
        range("bank", INDEX, 0, 6, (x, v) -> x.account(v, 0));
        MillstreamPayments x = new MillstreamPayments();
        x.fund(0, 0, 7);
        x.fund(5, 0, 8);
        net(x, 5, 0, 0, 1);
        x.endDay();
        due("the first, the last, the switch", list(x.account(0, 0), x.account(5, 0), x.account(6, 0)), list(8, 6, 1));
    }

    /** Promise 19: "currency: 0 to 2" */
    static void accountCurrency() {
        range("currency", INDEX, 0, 2, (x, v) -> x.account(6, v));
        MillstreamPayments x = new MillstreamPayments();
        x.fund(5, 0, 7);
        x.fund(5, 2, 8);
        due("the first, the last, the one between", list(x.account(5, 0), x.account(5, 2), x.account(5, 1)),
                list(7, 8, 0));
    }

    /** Promise 19: "Returns what is on it." */
    static void accountReturns() {
        MillstreamPayments x = new MillstreamPayments();
        due("nothing", x.account(0, 0), 0);
        x.line(0, 0, 1000000);
        real(x, 0, 0, 1, 1);
        due("below 0", x.account(0, 0), -1);
        due("above 0", x.account(1, 0), 1);
        real(x, 0, 1, 1, 999999);
        due("as far as a line can be", x.account(0, 0), -1000000);
        x.fund(0, 0, 1000000);
        due("0 again", x.account(0, 0), 0);
        for (int i = 0; i < 508; i++) {
            x.fund(5, 0, 1000000);
        }
        due("as far as 512 calls get", x.account(5, 0), 508000000);
        for (int i = 508; i < 3000; i++) {
            x.fund(5, 0, 1000000);
        }
        due("beyond an int", x.account(5, 0), 3000000000L);
    }

    /** Promise 19: "Throws IndexOutOfBoundsException if there is no such bank or currency" */
    static void accountThrowsIndex() {
        taken("the last ones", Bounds::busy, x -> x.account(6, 2));
        refused("no such bank", INDEX, Bounds::busy, x -> x.account(7, 2));
        refused("no such currency", INDEX, Bounds::busy, x -> x.account(6, 3));
        refused("a bank that would stand for another slot", INDEX, Bounds::busy, x -> x.account(-1, 3));
        refused("a currency that would", INDEX, Bounds::busy, x -> x.account(1, -1));
    }

    /** Promise 20: "bank: 0 to 6" */
    static void accountAnewBank() {
        range("bank", INDEX, 0, 6, (x, v) -> x.accountAnew(v, 0));
        MillstreamPayments x = new MillstreamPayments();
        x.fund(0, 0, 7);
        x.fund(5, 0, 8);
        net(x, 5, 0, 0, 1);
        x.endDay();
        due("the first, the last, the switch", list(x.accountAnew(0, 0), x.accountAnew(5, 0), x.accountAnew(6, 0)),
                list(8, 6, 1));
    }

    /** Promise 20: "currency: 0 to 2" */
    static void accountAnewCurrency() {
        range("currency", INDEX, 0, 2, (x, v) -> x.accountAnew(6, v));
        MillstreamPayments x = new MillstreamPayments();
        x.fund(5, 0, 7);
        x.fund(5, 2, 8);
        due("the first, the last, the one between", list(x.accountAnew(5, 0), x.accountAnew(5, 2),
                x.accountAnew(5, 1)), list(7, 8, 0));
    }

    /** Promise 20: "Returns what is on it." */
    static void accountAnewReturns() {
        MillstreamPayments x = new MillstreamPayments();
        due("nothing, of no entry", x.accountAnew(0, 0), 0);
        x.line(0, 0, 1000000);
        real(x, 0, 0, 1, 1000000);
        due("of one entry, below 0", x.accountAnew(0, 0), -1000000);
        due("of one entry, above 0", x.accountAnew(1, 0), 1000000);
        x.endDay();
        due("with a fee and interest", x.accountAnew(0, 0), -1000000 - 2 - 10000);
        due("of the switch", x.accountAnew(6, 0), 10002);
        for (int i = 0; i < 508; i++) {
            x.fund(5, 0, 1000000);
        }
        due("of the last entry of 512 calls, too", x.accountAnew(5, 0), 508000000);
        for (int i = 508; i < 3000; i++) {
            x.fund(5, 0, 1000000);
        }
        due("beyond an int", x.accountAnew(5, 0), 3000000000L);
    }

    /** Promise 20: "Throws IndexOutOfBoundsException if there is no such bank or currency" */
    static void accountAnewThrowsIndex() {
        taken("the last ones", Bounds::busy, x -> x.accountAnew(6, 2));
        refused("no such bank", INDEX, Bounds::busy, x -> x.accountAnew(7, 2));
        refused("outside is none", INDEX, Bounds::busy, x -> x.accountAnew(NONE, 0));
        refused("no such currency", INDEX, Bounds::busy, x -> x.accountAnew(6, 3));
        refused("no currency -1", INDEX, Bounds::busy, x -> x.accountAnew(6, -1));
    }

    private static MillstreamPayments paidAll() {
        MillstreamPayments x = new MillstreamPayments();
        for (int bank : new int[] {0, 5}) {
            x.fund(bank, 0, 100);
            x.fund(bank, 2, 100);
            paying(x, bank, 0, 5 - bank, 0, 1 + bank);
            paying(x, bank, 2, 5 - bank, 2, 20 + 2 * bank);
            paying(x, bank, 3, 3, 0, 50 + bank);
        }
        return x;
    }

    /** Promise 21: "bank: 0 to 5" */
    static void paidBank() {
        range("bank", INDEX, 0, 5, (x, v) -> x.paid(v, 1, 0));
        due("the first, the last, the one between", list(paidAll().paid(0, 3, 0), paidAll().paid(5, 3, 0),
                paidAll().paid(4, 3, 0)), list(50, 55, 0));
    }

    /** Promise 21: "other: 0 to 5" */
    static void paidOther() {
        range("other", INDEX, 0, 5, (x, v) -> x.paid(1, v, 0));
        due("the first, the last, the one between", list(paidAll().paid(3, 0, 0), paidAll().paid(3, 5, 0),
                paidAll().paid(3, 4, 0)), list(-50, -55, 0));
        for (int bank = 0; bank < 6; bank++) {
            due("itself", paidAll().paid(bank, bank, 0), 0);
        }
    }

    /** Promise 21: "currency: 0 to 2" */
    static void paidCurrency() {
        range("currency", INDEX, 0, 2, (x, v) -> x.paid(0, 1, v));
        due("the first, the last, the one between", list(paidAll().paid(0, 5, 0), paidAll().paid(0, 5, 2),
                paidAll().paid(0, 5, 1)), list(-5, -10, 0));
    }

    /** Promise 21: "Returns the amount, which can be below 0." */
    static void paidReturns() {
        MillstreamPayments x = new MillstreamPayments();
        x.line(0, 0, 1000000);
        x.line(1, 0, 1000000);
        due("nothing", x.paid(0, 1, 0), 0);
        real(x, 0, 0, 1, 1000000);
        due("the most of one payment", x.paid(0, 1, 0), 1000000);
        due("below 0", x.paid(1, 0, 0), -1000000);
        real(x, 1, 0, 0, 1000000);
        due("just as much back", x.paid(0, 1, 0), 0);
        real(x, 1, 1, 0, 1);
        due("1 more", x.paid(0, 1, 0), -1);
        due("1 more, the other way", x.paid(1, 0, 0), 1);
        x.endDay();
        due("on the next day", x.paid(1, 0, 0), 0);
    }

    /** Promise 21: "Throws IndexOutOfBoundsException if there is no such bank, of either, or currency" */
    static void paidThrowsIndex() {
        taken("the last ones", Bounds::busy, x -> x.paid(5, 5, 2));
        refused("the switch has paid none", INDEX, Bounds::busy, x -> x.paid(6, 5, 2));
        refused("nor was it paid", INDEX, Bounds::busy, x -> x.paid(5, 6, 2));
        refused("no such currency", INDEX, Bounds::busy, x -> x.paid(5, 5, 3));
        refused("neither of the banks", INDEX, Bounds::busy, x -> x.paid(-1, -1, 0));
        refused("a currency -1", INDEX, Bounds::busy, x -> x.paid(0, 1, -1));
    }

    /** Promise 22: "Returns how many payments there are." */
    static void paymentsReturns() {
        for (int many : new int[] {0, 1, 2, 59, 60}) {
            due("so many", withPayments(many).payments(), many);
        }
        refused("one that is refused is none", STATE, () -> withPayments(60), x -> real(x, 0, 50, 1, 1));
        MillstreamPayments x = withPayments(60);
        due("a double is none", real(x, 5, 9, 0, 1) + x.payments(), 59 + 60);
        x.withdraw(0);
        due("a RETURNED one is one", x.payments(), 60);
    }

    /** Promise 23: "payment: a payment" */
    static void stateOfPayment() {
        for (int many : new int[] {1, 2, 59, 60}) {
            refused("-1", INDEX, () -> withPayments(many), x -> x.stateOf(-1));
            taken("the first", () -> withPayments(many), x -> x.stateOf(0));
            taken("the last", () -> withPayments(many), x -> x.stateOf(many - 1));
            refused("one beyond", INDEX, () -> withPayments(many), x -> x.stateOf(many));
        }
    }

    /** Promise 23: "Returns WAITING to RETURNED." */
    static void stateOfReturns() {
        due("all of them", list(busy().stateOf(5), busy().stateOf(4), busy().stateOf(6), busy().stateOf(10),
                busy().stateOf(12), busy().stateOf(11)), list(0, 1, 2, 3, 4, 5));
        MillstreamPayments x = new MillstreamPayments();
        x.send(0, 0, 1, 0, 5, 1, 0, true, 1, true);
        due("WAITING", x.stateOf(0), 0);
        x.list(1, true);
        x.endDay();
        due("HELD", x.stateOf(0), 1);
        x.release(0, 0);
        x.release(0, 1);
        due("QUEUED", x.stateOf(0), 2);
        x.fund(0, 0, 4);
        due("still", x.stateOf(0), 2);
        x.fund(0, 0, 1);
        due("FINAL", x.stateOf(0), 4);
    }

    /** Promise 23: "Throws IndexOutOfBoundsException if there is no such payment" */
    static void stateOfThrowsIndex() {
        refused("when there is none", INDEX, MillstreamPayments::new, x -> x.stateOf(0));
        refused("far", INDEX, () -> withPayments(60), x -> x.stateOf(Integer.MAX_VALUE));
        refused("far below", INDEX, () -> withPayments(60), x -> x.stateOf(Integer.MIN_VALUE));
        refused("one that was refused", INDEX, () -> {
            MillstreamPayments x = withPayments(3);
            x.withdraw(2);
            return x;
        }, x -> x.stateOf(3));
    }

    /** Promise 24: "bank: 0 to 5" */
    static void queueAtBank() {
        range("bank", INDEX, 0, 5, (x, v) -> x.queueAt(v, 0, 0));
        MillstreamPayments x = withPayments(60);
        for (int bank = 0; bank < 6; bank++) {
            due("the first one of " + bank, x.queueAt(bank, 0, 0), 10 * bank);
        }
    }

    /** Promise 24: "currency: 0 to 2" */
    static void queueAtCurrency() {
        range("currency", INDEX, 0, 2, (x, v) -> x.queueAt(0, v, 0));
        MillstreamPayments x = new MillstreamPayments();
        paying(x, 5, 0, 0, 0, 1);
        paying(x, 5, 1, 0, 2, 1);
        due("the first, the last, the one between", list(x.queueAt(5, 0, 0), x.queueAt(5, 2, 0), x.queueAt(5, 1, 0)),
                list(0, 1, -1));
    }

    /** Promise 24: "place: 0 for the first one" */
    static void queueAtPlace() {
        MillstreamPayments x = withPayments(25);
        due("the first one", x.queueAt(2, 0, 0), 20);
        due("the second one", x.queueAt(2, 0, 1), 21);
        due("the last one", x.queueAt(2, 0, 4), 24);
        refused("-1", INDEX, () -> withPayments(25), y -> y.queueAt(2, 0, -1));
        x.withdraw(20);
        due("another first one", x.queueAt(2, 0, 0), 21);
    }

    /** Promise 24: "Returns the payment; NONE if there are not so many." */
    static void queueAtReturns() {
        for (int many : new int[] {0, 1, 2, 59, 60}) {
            MillstreamPayments x = new MillstreamPayments();
            for (int i = 0; i < many; i++) {
                real(x, 0, i, 1, 1);
            }
            due("the last one of " + many, many == 0 ? -1 : x.queueAt(0, 0, many - 1), many - 1);
            due("one beyond", x.queueAt(0, 0, many), NONE);
            due("two beyond", x.queueAt(0, 0, many + 1), NONE);
            due("far", x.queueAt(0, 0, Integer.MAX_VALUE), NONE);
        }
    }

    /** Promise 24: "Throws IndexOutOfBoundsException if there is no such bank or currency, or place is below 0" */
    static void queueAtThrowsIndex() {
        taken("the last ones", Bounds::busy, x -> x.queueAt(5, 2, 0));
        refused("no such bank", INDEX, Bounds::busy, x -> x.queueAt(6, 2, 0));
        refused("no such currency", INDEX, Bounds::busy, x -> x.queueAt(5, 3, 0));
        refused("place -1", INDEX, Bounds::busy, x -> x.queueAt(5, 2, -1));
        refused("place, far below", INDEX, Bounds::busy, x -> x.queueAt(5, 2, Integer.MIN_VALUE));
        taken("place 0", Bounds::busy, x -> x.queueAt(0, 0, 0));
        taken("place, far", Bounds::busy, x -> x.queueAt(0, 0, Integer.MAX_VALUE));
    }

    private static MillstreamPayments withEntries(int many) {
        MillstreamPayments x = new MillstreamPayments();
        for (int i = 0; i < many; i++) {
            x.fund(i % 6, i % 3, i + 1);
        }
        return x;
    }

    /** Promise 25: "Returns how many entries the book has." */
    static void entriesReturns() {
        for (int many : new int[] {0, 1, 2, 510, 511}) {
            due("so many", withEntries(many).entries(), many);
        }
        refused("one that is refused is none", ARGUMENT, () -> withEntries(2), x -> x.fund(0, 0, 0));
        MillstreamPayments x = withEntries(1);
        real(x, 0, 0, 1, 2);
        due("what is not FINAL has none", x.entries(), 1);
        x.fund(0, 0, 1);
        due("money and a payment", x.entries(), 3);
        x.endDay();
        due("and a fee", x.entries(), 4);
    }

    /** Promise 26: "entry: from 0" */
    static void entryAtEntry() {
        for (int many : new int[] {1, 2, 100}) {
            refused("-1", INDEX, () -> withEntries(many), x -> x.entryAt(-1, 0));
            due("the first", withEntries(many).entryAt(0, 3), 1);
            due("the last", withEntries(many).entryAt(many - 1, 3), many);
            refused("one beyond", INDEX, () -> withEntries(many), x -> x.entryAt(many, 0));
        }
    }

    /** Promise 26: "what: 0 the account from which, NONE from outside, 1 that to which, 2 the currency, 3 the amount, 4 the payment, NONE for others" */
    static void entryAtWhat() {
        range("what", ARGUMENT, 0, 4, (x, v) -> x.entryAt(0, v));
        MillstreamPayments x = new MillstreamPayments();
        x.fund(5, 2, 1000000);
        x.send(5, 0, 0, 2, 999999, 1, 0, true, 0, true);
        x.send(5, 1, 4, 2, 1, 1, 0, true, 0, true);
        x.endDay();
        due("from outside, the payment 0, the payment 1, a fee", Checks.book(x, 0), list(-1, 5, 2, 1000000, -1,
                5, 0, 2, 999999, 0, 5, 4, 2, 1, 1, 5, 6, 2, 4, -1));
    }

    /** Promise 26: "Returns as told." */
    static void entryAtReturns() {
        MillstreamPayments x = new MillstreamPayments();
        x.fund(0, 0, 1);
        x.line(5, 2, 1000000);
        x.send(5, 0, 0, 2, 1000000, 1, 0, true, 0, true);
        x.endDay();
        long[] due = {NONE, 0, 0, 1, NONE, 5, 0, 2, 1000000, 0, 5, 6, 2, 2, NONE, 5, 6, 2, 10000, NONE};
        for (int i = 0; i < due.length; i++) {
            due("entry " + i / 5 + ", " + i % 5, x.entryAt(i / 5, i % 5), due[i]);
        }
        due("no more", x.entries(), 4);
        due("an entry stays as it is", x.entryAt(0, 3), 1);
    }

    /** Promise 26: "Throws IndexOutOfBoundsException if there is no such entry" */
    static void entryAtThrowsIndex() {
        refused("when there is none", INDEX, MillstreamPayments::new, x -> x.entryAt(0, 0));
        refused("when there is none, and no such part", INDEX, MillstreamPayments::new, x -> x.entryAt(0, 5));
        refused("far", INDEX, () -> withEntries(3), x -> x.entryAt(Integer.MAX_VALUE, 0));
        refused("far below", INDEX, () -> withEntries(3), x -> x.entryAt(Integer.MIN_VALUE, 0));
        taken("the last one", () -> withEntries(3), x -> x.entryAt(2, 4));
    }

    /** Promise 26: "Throws IllegalArgumentException if what is out of range" */
    static void entryAtThrowsArgument() {
        refused("-1", ARGUMENT, () -> withEntries(1), x -> x.entryAt(0, -1));
        taken("0", () -> withEntries(1), x -> x.entryAt(0, 0));
        taken("4", () -> withEntries(1), x -> x.entryAt(0, 4));
        refused("5", ARGUMENT, () -> withEntries(1), x -> x.entryAt(0, 5));
    }

    /** So many payments of 1 from 0 to 5, all FINAL, with an advice each. */
    private static MillstreamPayments withAdvices(int many) {
        MillstreamPayments x = new MillstreamPayments();
        x.fund(0, 0, 60);
        for (int i = 0; i < many; i++) {
            real(x, 0, i, 5, 1);
        }
        return x;
    }

    private static MillstreamPayments withTaken(int many, int taken) {
        MillstreamPayments x = withAdvices(many);
        for (int i = 0; i < taken; i++) {
            x.advice(5);
        }
        return x;
    }

    /** Promise 27: "bank: 0 to 5" */
    static void adviceBank() {
        range("bank", INDEX, 0, 5, (x, v) -> x.advice(v));
        MillstreamPayments x = new MillstreamPayments();
        x.fund(2, 0, 2);
        real(x, 2, 0, 0, 1);
        real(x, 2, 1, 5, 1);
        due("the first, the last, those beside", list(x.advice(0), x.advice(5), x.advice(1), x.advice(4)),
                list(0, 1, -1, -1));
    }

    /** Promise 27: "Returns the payment; NONE if there is none, or the bank is out." */
    static void adviceReturns() {
        for (int many : new int[] {0, 1, 2, 59, 60}) {
            MillstreamPayments x = withAdvices(many);
            for (int i = 0; i < many; i++) {
                due("advice " + i + " of " + many, x.advice(5), i);
            }
            due("one beyond", x.advice(5), NONE);
            due("two beyond", x.advice(5), NONE);
        }
        MillstreamPayments out = withAdvices(2);
        out.advice(5);
        out.out(5, true);
        due("out", out.advice(5), NONE);
        out.out(5, false);
        due("the same one when it is back", out.advice(5), 1);
        MillstreamPayments late = withTaken(1, 5);
        real(late, 0, 50, 5, 1);
        due("one that comes when none was left", late.advice(5), 1);
    }

    /** Promise 27: "Throws IndexOutOfBoundsException if there is no such bank" */
    static void adviceThrowsIndex() {
        refused("-1", INDEX, () -> withAdvices(60), x -> x.advice(-1));
        taken("0", () -> withAdvices(60), x -> x.advice(0));
        taken("5", () -> withAdvices(60), x -> x.advice(5));
        refused("6, the switch", INDEX, () -> withAdvices(60), x -> x.advice(6));
    }

    /** Promise 28: "bank: 0 to 5" */
    static void againBank() {
        range("bank", INDEX, 0, 5, (x, v) -> x.again(v, 0));
        MillstreamPayments x = withTaken(3, 2);
        due("the last one", x.again(5, 1), 2);
        due("the first one", x.again(0, 0), 0);
        due("the last one stands where it asked from", x.advice(5), 1);
    }

    /** Promise 28: "from: 0 for the first one" */
    static void againFrom() {
        for (int from = 0; from <= 3; from++) {
            MillstreamPayments x = withTaken(3, 3);
            x.again(5, from);
            due("from " + from, x.advice(5), from < 3 ? from : NONE);
        }
    }

    /** Promise 28: "Returns how many it can take then." */
    static void againReturns() {
        for (int many : new int[] {0, 1, 2, 59, 60}) {
            due("all of " + many, withTaken(many, many).again(5, 0), many);
            due("none of " + many, withTaken(many, many).again(5, many), 0);
            due("the last one of " + many, many == 0 ? 1 : withTaken(many, many).again(5, many - 1), 1);
            due("all of " + many + ", and it had taken none", withTaken(many, 0).again(5, 0), many);
        }
        MillstreamPayments x = withTaken(2, 2);
        real(x, 0, 50, 5, 1);
        due("one that came since, too", x.again(5, 2), 1);
    }

    /** Promise 28: "Throws IndexOutOfBoundsException if there is no such bank" */
    static void againThrowsIndex() {
        refused("-1", INDEX, () -> withTaken(3, 3), x -> x.again(-1, 0));
        taken("0", () -> withTaken(3, 3), x -> x.again(0, 0));
        taken("5", () -> withTaken(3, 3), x -> x.again(5, 0));
        refused("6", INDEX, () -> withTaken(3, 3), x -> x.again(6, 0));
    }

    /** Promise 28: "Throws IllegalArgumentException if from is below 0, or it never had taken so many" */
    static void againThrowsArgument() {
        for (int many : new int[] {0, 1, 2, 59, 60}) {
            for (int had : new int[] {0, many / 2, many}) {
                refused("-1", ARGUMENT, () -> withTaken(many, had), x -> x.again(5, -1));
                taken("just so many", () -> withTaken(many, had), x -> x.again(5, had));
                refused("one more than it had taken", ARGUMENT, () -> withTaken(many, had), x -> x.again(5, had + 1));
            }
        }
        Made back = () -> {
            MillstreamPayments x = withTaken(5, 4);
            x.again(5, 1);
            x.advice(5);
            return x;
        };
        taken("as many as it ever had", back, x -> x.again(5, 4));
        refused("one more than it ever had", ARGUMENT, back, x -> x.again(5, 5));
        refused("NONE it takes does not count", ARGUMENT, () -> withTaken(3, 9), x -> x.again(5, 4));
    }
}
