/** The boundary cases of the promises 8 to 16. Each test names its promise and its sentence. */
public final class BoundsPaymentsTest extends Bounds {
    public static void main(String[] args) throws ReflectiveOperationException {
        runAll(BoundsPaymentsTest.class);
    }

    /** A payment that any of them may be one of: of 5 of the currency 1 from 2 to 3, for the name 4. */
    private static int send(MillstreamPayments x, int message, int rank, boolean isReal, int day, boolean stays) {
        return x.send(2, message, 3, 1, 5, 4, rank, isReal, day, stays);
    }

    /** Promise 8: "bank: 0 to 5: that pays" */
    static void sendBank() {
        range("bank", INDEX, 0, 5, (x, v) -> x.send(v, 50, v == 2 ? 4 : 2, 0, 1, 1, 0, true, 1, true));
        for (int bank : new int[] {0, 5}) {
            MillstreamPayments x = new MillstreamPayments();
            x.fund(bank, 0, 5);
            real(x, bank, 0, 2, 5);
            due("it pays", x.account(bank, 0), 0);
            due("as the book tells", x.entryAt(1, 0), bank);
        }
    }

    /** Promise 8: "message: 0 to 99" */
    static void sendMessage() {
        range("message", INDEX, 0, 99, MillstreamPayments::new, (x, v) -> send(x, v, 0, true, 0, true));
        MillstreamPayments x = new MillstreamPayments();
        for (int message : new int[] {0, 99, 1, 98}) {
            int payment = send(x, message, 0, true, 0, true);
            due("a double of " + message, send(x, message, 0, true, 0, true), payment);
        }
        due("four payments", x.payments(), 4);
    }

    /** Promise 8: "to: 0 to 5: another one" */
    static void sendTo() {
        range("to", INDEX, 0, 5, (x, v) -> x.send(v == 2 ? 4 : 2, 50, v, 0, 1, 1, 0, true, 1, true));
        for (int to : new int[] {0, 5}) {
            MillstreamPayments x = new MillstreamPayments();
            x.fund(2, 0, 5);
            real(x, 2, 0, to, 5);
            due("it gets it", x.account(to, 0), 5);
            due("as the book tells", x.entryAt(1, 1), to);
        }
        refused("not another one", ARGUMENT, Bounds::busy, x -> real(x, 2, 50, 2, 1));
        taken("the one before", Bounds::busy, x -> real(x, 2, 50, 1, 1));
        taken("the one behind", Bounds::busy, x -> real(x, 2, 50, 3, 1));
    }

    /** Promise 8: "currency: 0 to 2" */
    static void sendCurrency() {
        range("currency", INDEX, 0, 2, (x, v) -> paying(x, 0, 50, 1, v, 1));
        for (int currency : new int[] {0, 2}) {
            MillstreamPayments x = new MillstreamPayments();
            x.fund(0, currency, 5);
            paying(x, 0, 0, 1, currency, 5);
            due("of it", x.account(1, currency), 5);
            due("of no other one", x.account(1, 1) + x.account(1, 2 - currency), 0);
        }
    }

    /** Promise 8: "amount: 1 to 1000000" */
    static void sendAmount() {
        range("amount", ARGUMENT, 1, 1000000, (x, v) -> real(x, 0, 50, 1, v));
        for (int amount : new int[] {1, 2, 999999, 1000000}) {
            MillstreamPayments x = new MillstreamPayments();
            x.fund(0, 0, amount);
            real(x, 0, 0, 1, amount);
            due("all of it", x.account(1, 0), amount);
            due("and no more", x.account(0, 0), 0);
        }
        MillstreamPayments most = new MillstreamPayments();
        for (int i = 0; i < 60; i++) {
            most.fund(0, 0, 1000000);
            real(most, 0, i, 1, 1000000);
        }
        due("60 times the most", most.paid(0, 1, 0), 60000000);
    }

    /** Promise 8: "payee: 0 to 19" */
    static void sendPayee() {
        range("payee", INDEX, 0, 19, (x, v) -> x.send(0, 50, 1, 0, 1, v, 0, true, 1, true));
        MillstreamPayments x = new MillstreamPayments();
        x.send(0, 0, 1, 0, 1, 0, 0, true, 0, true);
        x.send(0, 1, 1, 0, 1, 19, 0, true, 0, true);
        due("for the first name", x.list(0, true), 1);
        due("for the last name", x.list(19, true), 1);
        due("for those beside", x.list(1, true) + x.list(18, true), 0);
    }

    /** Promise 8: "rank: 0 to 2" */
    static void sendRank() {
        range("rank", ARGUMENT, 0, 2, (x, v) -> send(x, 50, v, true, 1, true));
        MillstreamPayments x = new MillstreamPayments();
        send(x, 0, 1, true, 0, true);
        send(x, 1, 0, true, 0, true);
        send(x, 2, 2, true, 0, true);
        due("the first of them is of the rank 2", Checks.queue(x, 2, 1), list(2, 0, 1));
    }

    /** Promise 8: "isReal: whether it is real, otherwise for the net" */
    static void sendIsReal() {
        MillstreamPayments x = new MillstreamPayments();
        x.fund(2, 1, 10);
        due("real", x.stateOf(send(x, 0, 0, true, 0, true)), FINAL);
        due("for the net", x.stateOf(send(x, 1, 0, false, 0, true)), NETTED);
        due("in no queue", x.queueAt(2, 1, 0), NONE);
    }

    /** Promise 8: "day: 0 to 999; one that has gone by is like today" */
    static void sendDay() {
        range("day", ARGUMENT, 0, 999, (x, v) -> send(x, 50, 0, true, v, true));
        MillstreamPayments x = new MillstreamPayments();
        endDays(x, 2);
        int[] days = {0, 1, 2, 3, 4, 998, 999};
        for (int i = 0; i < days.length; i++) {
            due("day " + days[i], x.stateOf(send(x, i, 0, true, days[i], true)), days[i] <= 2 ? QUEUED : WAITING);
        }
        x.endDay();
        due("on the day 3", Checks.states(x), list(QUEUED, QUEUED, QUEUED, QUEUED, WAITING, WAITING, WAITING));
        MillstreamPayments gone = new MillstreamPayments();
        gone.endDay();
        gone.holiday(1, 1, true);
        due("like today, when the place is closed", gone.stateOf(send(gone, 0, 0, true, 0, false)), WAITING);
        gone.endDay();
        due("it enters on the next day", gone.stateOf(0), QUEUED);
        gone.endDay();
        due("and is RETURNED at its end, not ahead", gone.stateOf(0), RETURNED);
    }

    /** Promise 8: "stays: whether it may stay over" */
    static void sendStays() {
        MillstreamPayments x = new MillstreamPayments();
        send(x, 0, 0, true, 0, true);
        send(x, 1, 0, true, 0, false);
        send(x, 2, 0, false, 0, true);
        send(x, 3, 0, false, 0, false);
        x.endDay();
        due("those that may do", Checks.states(x), list(QUEUED, RETURNED, NETTED, RETURNED));
    }

    /** Promise 8: "Returns the number of the payment." */
    static void sendReturns() {
        MillstreamPayments x = new MillstreamPayments();
        for (int i = 0; i < 60; i++) {
            due("one by one", real(x, i % 6, i, (i + 1) % 6, 5), i);
        }
        due("a double of the first", real(x, 0, 0, 1, 5), 0);
        due("a double of the last, when there are 60", real(x, 5, 59, 0, 5), 59);
    }

    /** Promise 8: "Throws IndexOutOfBoundsException if there is no such bank, of either, message, currency or name" */
    static void sendThrowsIndex() {
        taken("all the last ones", Bounds::busy, x -> x.send(5, 99, 4, 2, 1, 19, 0, true, 1, true));
        refused("bank", INDEX, Bounds::busy, x -> x.send(6, 99, 4, 2, 1, 19, 0, true, 1, true));
        refused("message", INDEX, Bounds::busy, x -> x.send(4, 100, 5, 2, 1, 19, 0, true, 1, true));
        refused("to", INDEX, Bounds::busy, x -> x.send(5, 99, 6, 2, 1, 19, 0, true, 1, true));
        refused("currency", INDEX, Bounds::busy, x -> x.send(5, 99, 4, 3, 1, 19, 0, true, 1, true));
        refused("name", INDEX, Bounds::busy, x -> x.send(5, 99, 4, 2, 1, 20, 0, true, 1, true));
        taken("all the first ones", Bounds::busy, x -> x.send(1, 9, 0, 0, 1, 0, 0, true, 0, true));
        refused("bank -1", INDEX, Bounds::busy, x -> x.send(-1, 9, 0, 0, 1, 0, 0, true, 0, true));
        refused("bank -1, and a message that would make up for it", INDEX, Bounds::busy,
                x -> x.send(-1, 100, 0, 0, 1, 0, 0, true, 0, true));
        refused("message -1", INDEX, Bounds::busy, x -> x.send(1, -1, 0, 0, 1, 0, 0, true, 0, true));
        refused("to -1", INDEX, Bounds::busy, x -> x.send(1, 9, -1, 0, 1, 0, 0, true, 0, true));
        refused("currency -1", INDEX, Bounds::busy, x -> x.send(1, 9, 0, -1, 1, 0, 0, true, 0, true));
        refused("name -1", INDEX, Bounds::busy, x -> x.send(1, 9, 0, 0, 1, -1, 0, true, 0, true));
    }

    /** Promise 8: "Throws IllegalArgumentException if both banks are the same, or amount, rank or day is out of range" */
    static void sendThrowsArgument() {
        for (int bank : new int[] {0, 5}) {
            refused("both " + bank, ARGUMENT, Bounds::busy, x -> real(x, bank, 50, bank, 1));
        }
        taken("the most of all", Bounds::busy, x -> x.send(5, 50, 4, 0, 1000000, 1, 2, true, 999, true));
        refused("amount", ARGUMENT, Bounds::busy, x -> x.send(5, 50, 4, 0, 1000001, 1, 2, true, 999, true));
        refused("rank", ARGUMENT, Bounds::busy, x -> x.send(5, 50, 4, 0, 1000000, 1, 3, true, 999, true));
        refused("day", ARGUMENT, Bounds::busy, x -> x.send(5, 50, 4, 0, 1000000, 1, 2, true, 1000, true));
        taken("the least of all", Bounds::busy, x -> x.send(5, 50, 4, 0, 1, 1, 0, true, 0, true));
        refused("amount 0", ARGUMENT, Bounds::busy, x -> x.send(5, 50, 4, 0, 0, 1, 0, true, 0, true));
        refused("rank -1", ARGUMENT, Bounds::busy, x -> x.send(5, 50, 4, 0, 1, 1, -1, true, 0, true));
        refused("day -1", ARGUMENT, Bounds::busy, x -> x.send(5, 50, 4, 0, 1, 1, 0, true, -1, true));
    }

    private static MillstreamPayments outWithOne() {
        MillstreamPayments x = new MillstreamPayments();
        send(x, 7, 1, true, 0, true);
        x.out(2, true);
        return x;
    }

    /** Promise 8: "Throws IllegalStateException if the bank is out (for a double, too), it has sent another message of this number, or there are 60 payments, and it is no double" */
    static void sendThrowsState() {
        refused("out", STATE, BoundsPaymentsTest::outWithOne, x -> send(x, 8, 1, true, 0, true));
        refused("out, a double", STATE, BoundsPaymentsTest::outWithOne, x -> send(x, 7, 1, true, 0, true));
        taken("another bank", BoundsPaymentsTest::outWithOne, x -> real(x, 1, 7, 3, 1));
        taken("to one that is out", BoundsPaymentsTest::outWithOne, x -> real(x, 1, 7, 2, 1));
        MillstreamPayments back = outWithOne();
        back.out(2, false);
        due("a double when it is back", send(back, 7, 1, true, 0, true) + 10 * back.doubles(), 10);
        refused("another message of this number", STATE, Bounds::busy, x -> real(x, 0, 3, 3, 21));
        taken("the same of this number", Bounds::busy, x -> real(x, 0, 3, 3, 20));
        taken("another one of the next number", Bounds::busy, x -> real(x, 0, 4, 3, 21));
        taken("59 payments", () -> withPayments(59), x -> real(x, 0, 50, 1, 1));
        refused("60 payments", STATE, () -> withPayments(60), x -> real(x, 0, 50, 1, 1));
        taken("60 payments, and a double", () -> withPayments(60), x -> real(x, 0, 0, 1, 1));
        refused("60 payments, and not alike", STATE, () -> withPayments(60), x -> real(x, 0, 0, 1, 2));
        refused("60 payments, and all ended", STATE, () -> {
            MillstreamPayments x = withPayments(60);
            x.offset(0);
            return x;
        }, x -> real(x, 0, 50, 1, 1));
    }

    /** Promise 9: "Returns how many doubles there were." */
    static void doublesReturns() {
        MillstreamPayments x = new MillstreamPayments();
        due("none", x.doubles(), 0);
        real(x, 0, 0, 1, 1);
        real(x, 0, 1, 1, 1);
        due("none of two messages that tell the same", x.doubles(), 0);
        for (int i = 1; i <= 100; i++) {
            real(x, 0, i % 2, 1, 1);
            due("so many", x.doubles(), i);
        }
        due("of two payments", x.payments(), 2);
        refused("one that is refused is none", STATE, () -> {
            MillstreamPayments y = new MillstreamPayments();
            real(y, 0, 0, 1, 1);
            return y;
        }, y -> real(y, 0, 0, 1, 2));
        x.endDay();
        due("over a day", x.doubles(), 100);
    }

    /** Two that can be legs, 0 and 1, and two others that can, 2 and 3. */
    private static MillstreamPayments fourLegs() {
        MillstreamPayments x = new MillstreamPayments();
        paying(x, 0, 0, 1, 0, 5);
        paying(x, 1, 0, 0, 1, 5);
        paying(x, 4, 0, 5, 2, 5);
        paying(x, 5, 0, 4, 1, 5);
        return x;
    }

    /** Promise 10: "payment: a payment" */
    static void joinPayment() {
        refused("-1", INDEX, BoundsPaymentsTest::fourLegs, x -> x.join(-1, 0));
        taken("the first", BoundsPaymentsTest::fourLegs, x -> x.join(0, 1));
        taken("the last", BoundsPaymentsTest::fourLegs, x -> x.join(3, 2));
        refused("one beyond", INDEX, BoundsPaymentsTest::fourLegs, x -> x.join(4, 2));
    }

    /** Promise 10: "other: a payment" */
    static void joinOther() {
        refused("-1", INDEX, BoundsPaymentsTest::fourLegs, x -> x.join(0, -1));
        taken("the first", BoundsPaymentsTest::fourLegs, x -> x.join(1, 0));
        taken("the last", BoundsPaymentsTest::fourLegs, x -> x.join(2, 3));
        refused("one beyond", INDEX, BoundsPaymentsTest::fourLegs, x -> x.join(2, 4));
    }

    /** Promise 10: "Throws IndexOutOfBoundsException if there is no such payment, of either" */
    static void joinThrowsIndex() {
        for (int far : new int[] {Integer.MIN_VALUE, -2, 5, 60, Integer.MAX_VALUE}) {
            refused("the one " + far, INDEX, BoundsPaymentsTest::fourLegs, x -> x.join(far, 1));
            refused("the other one " + far, INDEX, BoundsPaymentsTest::fourLegs, x -> x.join(0, far));
            refused("both " + far, INDEX, BoundsPaymentsTest::fourLegs, x -> x.join(far, far));
        }
        refused("when there is none", INDEX, MillstreamPayments::new, x -> x.join(0, 1));
    }

    /** Promise 10: "Throws IllegalStateException if they cannot be legs, as told" */
    static void joinThrowsState() {
        taken("as told", BoundsPaymentsTest::fourLegs, x -> x.join(2, 3));
        refused("itself", STATE, BoundsPaymentsTest::fourLegs, x -> x.join(3, 3));
        refused("of other banks", STATE, BoundsPaymentsTest::fourLegs, x -> x.join(0, 3));
        refused("when one is joined", STATE, () -> {
            MillstreamPayments x = fourLegs();
            paying(x, 4, 1, 5, 0, 5);
            x.join(2, 3);
            return x;
        }, x -> x.join(4, 3));
        refused("when one is RETURNED", STATE, () -> {
            MillstreamPayments x = fourLegs();
            x.withdraw(3);
            return x;
        }, x -> x.join(2, 3));
        refused("when one is FINAL", STATE, () -> {
            MillstreamPayments x = fourLegs();
            x.fund(4, 2, 5);
            return x;
        }, x -> x.join(2, 3));
        taken("when 1 is missing", () -> {
            MillstreamPayments x = fourLegs();
            x.fund(4, 2, 4);
            return x;
        }, x -> x.join(2, 3));
    }

    /** Promise 11: "payment: a payment" */
    static void withdrawPayment() {
        refused("-1", INDEX, BoundsPaymentsTest::fourLegs, x -> x.withdraw(-1));
        taken("the first", BoundsPaymentsTest::fourLegs, x -> x.withdraw(0));
        taken("the last", BoundsPaymentsTest::fourLegs, x -> x.withdraw(3));
        refused("one beyond", INDEX, BoundsPaymentsTest::fourLegs, x -> x.withdraw(4));
        taken("the last of 60", () -> withPayments(60), x -> x.withdraw(59));
        refused("one beyond 60", INDEX, () -> withPayments(60), x -> x.withdraw(60));
    }

    /** Promise 11: "Returns how many are RETURNED by that." */
    static void withdrawReturns() {
        for (int payment = 0; payment < 4; payment++) {
            MillstreamPayments x = fourLegs();
            x.join(2, 3);
            due("one, or two legs, by " + payment, x.withdraw(payment), payment < 2 ? 1 : 2);
            due("states", Checks.states(x), payment == 0 ? list(RETURNED, QUEUED, QUEUED, QUEUED)
                    : payment == 1 ? list(QUEUED, RETURNED, QUEUED, QUEUED) : list(QUEUED, QUEUED, RETURNED, RETURNED));
        }
    }

    /** Promise 11: "Throws IndexOutOfBoundsException if there is no such payment" */
    static void withdrawThrowsIndex() {
        refused("when there is none", INDEX, MillstreamPayments::new, x -> x.withdraw(0));
        taken("when there is one", () -> withPayments(1), x -> x.withdraw(0));
        refused("the second one of one", INDEX, () -> withPayments(1), x -> x.withdraw(1));
    }

    /** Promise 11: "Throws IllegalStateException if it is FINAL or RETURNED" */
    static void withdrawThrowsState() {
        MillstreamPayments x = busy();
        int refused = 0;
        for (int payment = 0; payment < x.payments(); payment++) {
            int number = payment;
            if (x.stateOf(payment) == FINAL || x.stateOf(payment) == RETURNED) {
                refused("of " + payment, STATE, Bounds::busy, y -> y.withdraw(number));
                refused++;
            } else {
                taken("of " + payment, Bounds::busy, y -> y.withdraw(number));
            }
        }
        due("four FINAL ones and a RETURNED one", refused, 5);
    }

    private static MillstreamPayments threeHeld() {
        MillstreamPayments x = new MillstreamPayments();
        x.list(4, true);
        for (int i = 0; i < 3; i++) {
            x.send(0, i, 1, 0, 5, 4, 0, true, 0, true);
        }
        x.release(1, 2);
        return x;
    }

    /** Promise 12: "payment: a payment" */
    static void releasePayment() {
        refused("-1", INDEX, BoundsPaymentsTest::threeHeld, x -> x.release(-1, 0));
        taken("the first", BoundsPaymentsTest::threeHeld, x -> x.release(0, 0));
        taken("the last", BoundsPaymentsTest::threeHeld, x -> x.release(2, 0));
        refused("one beyond", INDEX, BoundsPaymentsTest::threeHeld, x -> x.release(3, 0));
    }

    /** Promise 12: "officer: 0 to 3" */
    static void releaseOfficer() {
        range("officer", INDEX, 0, 3, (x, v) -> x.release(4, v));
        for (int officer = -1; officer <= 4; officer++) {
            int second = officer;
            if (officer >= 0 && officer < 4 && officer != 2) {
                taken("the second officer " + officer, BoundsPaymentsTest::threeHeld, x -> x.release(1, second));
            } else {
                refused("the second officer " + officer, officer == 2 ? STATE : INDEX, BoundsPaymentsTest::threeHeld,
                        x -> x.release(1, second));
            }
        }
    }

    /** Promise 12: "Returns whether it enters by that." */
    static void releaseReturns() {
        MillstreamPayments x = threeHeld();
        due("by the first one", x.release(0, 0), false);
        due("by the second one", x.release(0, 1), true);
        due("by the second one of another payment", x.release(1, 3), true);
        due("by the first one of the last", x.release(2, 2), false);
        due("states", Checks.states(x), list(QUEUED, QUEUED, HELD));
        x.fund(0, 0, 15);
        due("by the second one, and it settles", x.release(2, 3), true);
        due("all are FINAL", Checks.states(x), list(FINAL, FINAL, FINAL));
    }

    /** Promise 12: "Throws IndexOutOfBoundsException if there is no such payment or officer" */
    static void releaseThrowsIndex() {
        refused("no such payment", INDEX, BoundsPaymentsTest::threeHeld, x -> x.release(3, 3));
        refused("no such officer", INDEX, BoundsPaymentsTest::threeHeld, x -> x.release(2, 4));
        refused("officer -1, as none has done so", INDEX, BoundsPaymentsTest::threeHeld, x -> x.release(2, -1));
        refused("neither", INDEX, BoundsPaymentsTest::threeHeld, x -> x.release(-1, -1));
        taken("both", BoundsPaymentsTest::threeHeld, x -> x.release(2, 3));
    }

    /** Promise 12: "Throws IllegalStateException if it is not HELD, or the officer is the one that has done so already" */
    static void releaseThrowsState() {
        for (int payment = 0; payment < 13; payment++) {
            int number = payment;
            if (payment == 3 || payment == 4) {
                taken("a HELD one", Bounds::busy, x -> x.release(number, 1));
            } else {
                refused("not HELD: " + payment, STATE, Bounds::busy, x -> x.release(number, 1));
            }
        }
        refused("the one that has", STATE, BoundsPaymentsTest::threeHeld, x -> x.release(1, 2));
        taken("the one before", BoundsPaymentsTest::threeHeld, x -> x.release(1, 1));
        taken("the one behind", BoundsPaymentsTest::threeHeld, x -> x.release(1, 3));
        taken("the same one, for another payment", BoundsPaymentsTest::threeHeld, x -> x.release(0, 2));
        refused("the one that has, a day later", STATE, () -> {
            MillstreamPayments x = threeHeld();
            x.endDay();
            x.list(4, false);
            return x;
        }, x -> x.release(1, 2));
    }

    /** Promise 13: "payment: a payment" */
    static void refusePayment() {
        refused("-1", INDEX, BoundsPaymentsTest::threeHeld, x -> x.refuse(-1));
        taken("the first", BoundsPaymentsTest::threeHeld, x -> x.refuse(0));
        taken("the last", BoundsPaymentsTest::threeHeld, x -> x.refuse(2));
        refused("one beyond", INDEX, BoundsPaymentsTest::threeHeld, x -> x.refuse(3));
    }

    /** Promise 13: "Returns how many are RETURNED by that." */
    static void refuseReturns() {
        due("one", threeHeld().refuse(0), 1);
        due("one that was released once", threeHeld().refuse(1), 1);
        MillstreamPayments x = threeHeld();
        paying(x, 1, 0, 0, 2, 5);
        x.join(3, 0);
        due("two legs", x.refuse(0), 2);
        due("those two", Checks.states(x), list(RETURNED, HELD, HELD, RETURNED));
        MillstreamPayments y = fourLegs();
        y.join(0, 1);
        y.list(1, true);
        due("two legs that are both HELD", y.refuse(1), 2);
        due("one beside", y.refuse(2), 1);
        due("all but one", Checks.states(y), list(RETURNED, RETURNED, RETURNED, HELD));
    }

    /** Promise 13: "Throws IndexOutOfBoundsException if there is no such payment" */
    static void refuseThrowsIndex() {
        refused("when there is none", INDEX, MillstreamPayments::new, x -> x.refuse(0));
        refused("one beyond 60", INDEX, () -> withPayments(60), x -> x.refuse(60));
        refused("the last of 60 is another thing", STATE, () -> withPayments(60), x -> x.refuse(59));
    }

    /** Promise 13: "Throws IllegalStateException if it is not HELD" */
    static void refuseThrowsState() {
        for (int payment = 0; payment < 13; payment++) {
            int number = payment;
            if (payment == 3 || payment == 4) {
                taken("a HELD one", Bounds::busy, x -> x.refuse(number));
            } else {
                refused("not HELD: " + payment, STATE, Bounds::busy, x -> x.refuse(number));
            }
        }
    }

    /** Promise 14: "currency: 0 to 2" */
    static void offsetCurrency() {
        range("currency", INDEX, 0, 2, (x, v) -> x.offset(v));
        for (int of = 0; of < 3; of++) {
            MillstreamPayments x = new MillstreamPayments();
            for (int currency = 0; currency < 3; currency++) {
                paying(x, 0, currency, 1, currency, 1);
                paying(x, 1, currency, 0, currency, 1);
            }
            due("of the currency " + of, x.offset(of), 2);
            for (int currency = 0; currency < 3; currency++) {
                due("the currency " + currency, x.stateOf(2 * currency), currency == of ? FINAL : QUEUED);
            }
        }
    }

    /** Promise 14: "Returns how many payments become FINAL by the set." */
    static void offsetReturns() {
        due("none", new MillstreamPayments().offset(0), 0);
        for (int many : new int[] {1, 2, 3, 59, 60}) {
            MillstreamPayments x = new MillstreamPayments();
            for (int i = 0; i < many; i++) {
                real(x, 0, i, 1, 1);
            }
            if (many < 60) {
                real(x, 1, 0, 0, many);
            }
            due(many + " against one", x.offset(0), many == 60 ? 0 : many == 1 ? 2 : many + 1);
        }
        MillstreamPayments behind = new MillstreamPayments();
        behind.send(0, 0, 1, 0, 5, 1, 2, true, 0, true);
        behind.send(1, 0, 0, 0, 8, 1, 2, true, 0, true);
        behind.send(0, 1, 2, 0, 3, 1, 0, true, 0, true);
        behind.send(2, 1, 0, 1, 3, 1, 0, true, 0, true);
        behind.join(2, 3);
        behind.line(1, 0, 3);
        behind.line(2, 1, 3);
        due("not those that settle by the queues behind it", behind.offset(0), 2);
        due("though they do", Checks.states(behind), list(FINAL, FINAL, FINAL, FINAL));
    }

    /** Promise 14: "Throws IndexOutOfBoundsException if there is no such currency" */
    static void offsetThrowsIndex() {
        refused("-1", INDEX, () -> withPayments(60), x -> x.offset(-1));
        taken("0", () -> withPayments(60), x -> x.offset(0));
        taken("2", () -> withPayments(60), x -> x.offset(2));
        refused("3", INDEX, () -> withPayments(60), x -> x.offset(3));
    }

    private static MillstreamPayments threeFinal(int later) {
        MillstreamPayments x = new MillstreamPayments();
        x.fund(0, 0, 30);
        for (int i = 0; i < 3; i++) {
            real(x, 0, i, 1, 5);
        }
        endDays(x, later);
        return x;
    }

    /** Promise 15: "payment: a payment" */
    static void recallPayment() {
        refused("-1", INDEX, () -> threeFinal(0), x -> x.recall(-1));
        taken("the first", () -> threeFinal(0), x -> x.recall(0));
        taken("the last", () -> threeFinal(0), x -> x.recall(2));
        refused("one beyond", INDEX, () -> threeFinal(0), x -> x.recall(3));
    }

    /** Promise 15: "Returns the last day on which it can be answered." */
    static void recallReturns() {
        for (int later = 0; later <= 3; later++) {
            int last = threeFinal(later).recall(0);
            due("recalled on the day " + later, last, later + 2);
            for (int wait = 0; wait <= 4; wait++) {
                int by = wait;
                int on = later;
                Made made = () -> {
                    MillstreamPayments x = threeFinal(on);
                    x.recall(0);
                    endDays(x, by);
                    return x;
                };
                if (later + wait <= last) {
                    taken("answered on the day " + (later + wait), made, x -> x.answer(0, false));
                } else {
                    refused("answered on the day " + (later + wait), STATE, made, x -> x.answer(0, false));
                }
            }
        }
        MillstreamPayments end = new MillstreamPayments();
        end.fund(0, 0, 100);
        end.send(0, 0, 1, 0, 5, 1, 0, true, 998, true);
        endDays(end, 998);
        due("on the last day of all", end.recall(0), 1000);
        due("then it can be answered", end.answer(0, true), 1);
    }

    /** Promise 15: "Throws IndexOutOfBoundsException if there is no such payment" */
    static void recallThrowsIndex() {
        refused("when there is none", INDEX, MillstreamPayments::new, x -> x.recall(0));
        refused("one beyond 60", INDEX, () -> withPayments(60), x -> x.recall(60));
        refused("the last of 60 is another thing", STATE, () -> withPayments(60), x -> x.recall(59));
    }

    /** Promise 15: "Throws IllegalStateException if it is not FINAL, became so more than 3 days ago, or was recalled" */
    static void recallThrowsState() {
        for (int payment = 3; payment <= 11; payment++) {
            int number = payment;
            refused("not FINAL: " + payment, STATE, Bounds::busy, x -> x.recall(number));
        }
        refused("was recalled", STATE, Bounds::busy, x -> x.recall(0));
        refused("was recalled and answered", STATE, Bounds::busy, x -> x.recall(1));
        taken("a NETTED one that became so", Bounds::busy, x -> x.recall(2));
        taken("one of today", Bounds::busy, x -> x.recall(12));
        for (int later = 2; later <= 4; later++) {
            int by = later;
            if (later <= 3) {
                taken("FINAL " + later + " days ago", () -> threeFinal(by), x -> x.recall(1));
            } else {
                refused("FINAL " + later + " days ago", STATE, () -> threeFinal(by), x -> x.recall(1));
            }
        }
    }

    private static MillstreamPayments threeRecalled() {
        MillstreamPayments x = threeFinal(0);
        for (int i = 0; i < 3; i++) {
            x.recall(i);
        }
        return x;
    }

    /** Promise 16: "payment: the payment that was recalled" */
    static void answerPayment() {
        for (boolean isYes : new boolean[] {false, true}) {
            refused("-1", INDEX, BoundsPaymentsTest::threeRecalled, x -> x.answer(-1, isYes));
            taken("the first", BoundsPaymentsTest::threeRecalled, x -> x.answer(0, isYes));
            taken("the last", BoundsPaymentsTest::threeRecalled, x -> x.answer(2, isYes));
            refused("one beyond", INDEX, BoundsPaymentsTest::threeRecalled, x -> x.answer(3, isYes));
            refused("one that was not", STATE, () -> threeFinal(0), x -> x.answer(0, isYes));
        }
    }

    /** Promise 16: "isYes: whether it is given back" */
    static void answerIsYes() {
        MillstreamPayments no = threeRecalled();
        no.answer(0, false);
        due("with no", no.account(0, 0) * 100 + no.account(1, 0), 1515);
        MillstreamPayments yes = threeRecalled();
        yes.answer(0, true);
        due("with yes", yes.account(0, 0) * 100 + yes.account(1, 0), 2010);
    }

    /** Promise 16: "Returns the number of the new payment; NONE with no." */
    static void answerReturns() {
        MillstreamPayments x = threeRecalled();
        due("the first new one", x.answer(2, true), 3);
        due("none", x.answer(1, false), NONE);
        due("the second new one", x.answer(0, true), 4);
        due("so many", x.payments(), 5);
        MillstreamPayments full = recalledOf(59);
        due("the last one that there can be", full.answer(0, true), 59);
        due("of 60", full.payments(), 60);
    }

    /** So many payments, of which 0 and 1 are FINAL and recalled. */
    private static MillstreamPayments recalledOf(int many) {
        MillstreamPayments x = new MillstreamPayments();
        x.fund(0, 0, 2);
        for (int i = 0; i < many; i++) {
            real(x, 0, i, 1, 1);
        }
        x.recall(0);
        x.recall(1);
        return x;
    }

    /** Promise 16: "Throws IndexOutOfBoundsException if there is no such payment" */
    static void answerThrowsIndex() {
        refused("when there is none", INDEX, MillstreamPayments::new, x -> x.answer(0, true));
        refused("one beyond 60", INDEX, () -> recalledOf(60), x -> x.answer(60, false));
        refused("one beyond 60, with yes", INDEX, () -> recalledOf(60), x -> x.answer(60, true));
        refused("the last of 60 is another thing", STATE, () -> recalledOf(60), x -> x.answer(59, false));
    }

    /** Promise 16: "Throws IllegalStateException if it was not recalled, was answered, or it is too late; or, with yes, there are 60 payments" */
    static void answerThrowsState() {
        for (boolean isYes : new boolean[] {false, true}) {
            for (int payment = 1; payment < 13; payment++) {
                int number = payment;
                refused("not recalled, or answered: " + payment, STATE, Bounds::busy, x -> x.answer(number, isYes));
            }
            taken("recalled", Bounds::busy, x -> x.answer(0, isYes));
            for (int later = 1; later <= 3; later++) {
                int by = later;
                Made made = () -> {
                    MillstreamPayments x = threeRecalled();
                    endDays(x, by);
                    return x;
                };
                if (later <= 2) {
                    taken(later + " days later", made, x -> x.answer(0, isYes));
                } else {
                    refused(later + " days later", STATE, made, x -> x.answer(0, isYes));
                }
            }
        }
        taken("with yes, 59", () -> recalledOf(59), x -> x.answer(0, true));
        refused("with yes, 60", STATE, () -> recalledOf(60), x -> x.answer(0, true));
        taken("with no, 60", () -> recalledOf(60), x -> x.answer(0, false));
        refused("with yes, the first makes it 60", STATE, () -> {
            MillstreamPayments x = recalledOf(59);
            x.answer(0, true);
            return x;
        }, x -> x.answer(1, true));
    }
}
