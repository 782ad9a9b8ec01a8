/** Promises 8 to 13, 15 and 16: messages, legs, the two hands that release, recalls. */
public final class PaymentsTest {
    private static final int NONE = MillstreamPayments.NONE;
    private static final int WAITING = MillstreamPayments.WAITING;
    private static final int HELD = MillstreamPayments.HELD;
    private static final int QUEUED = MillstreamPayments.QUEUED;
    private static final int NETTED = MillstreamPayments.NETTED;
    private static final int FINAL = MillstreamPayments.FINAL;
    private static final int RETURNED = MillstreamPayments.RETURNED;

    public static void main(String[] args) {
        promise8();
        sendRefuses();
        sendCountsPayments();
        promise9();
        promise10();
        legsSettleTogether();
        promise11();
        promise12();
        promise13();
        promise15();
        promise16();
        answerMakesPayments();
        Checks.end();
    }

    private static int real(MillstreamPayments x, int bank, int message, int to, int currency, int amount) {
        return x.send(bank, message, to, currency, amount, 1, 0, true, 0, true);
    }

    private static void promise8() {
        MillstreamPayments x = new MillstreamPayments();
        Checks.due("8 the first", x.send(0, 0, 5, 0, 1, 0, 0, true, 0, true), 0);
        Checks.due("8 QUEUED", x.stateOf(0), QUEUED);
        Checks.due("8 the same number of another bank", x.send(5, 0, 0, 2, 1000000, 19, 2, false, 0, false), 1);
        Checks.due("8 NETTED", x.stateOf(1), NETTED);
        Checks.due("8 the last number", x.send(0, 99, 1, 1, 5, 3, 1, true, 1, true), 2);
        Checks.due("8 WAITING for a later day", x.stateOf(2), WAITING);
        Checks.due("8 the last day", x.send(0, 98, 1, 1, 5, 3, 1, true, 999, true), 3);
        x.list(7, true);
        Checks.due("8 listed", x.send(0, 97, 1, 1, 5, 7, 1, true, 0, true), 4);
        Checks.due("8 HELD", x.stateOf(4), HELD);
        x.holiday(1, 0, true);
        Checks.due("8 not open", x.send(0, 96, 1, 1, 5, 7, 1, true, 0, true), 5);
        Checks.due("8 WAITING, though listed", x.stateOf(5), WAITING);
        x.fund(3, 0, 10);
        Checks.due("8 settles at once", x.send(3, 1, 4, 0, 10, 1, 0, true, 0, true), 6);
        Checks.due("8 FINAL", x.stateOf(6), FINAL);
        Checks.due("8 the one account", x.account(3, 0), 0);
        Checks.due("8 the other", x.account(4, 0), 10);
        x.endDay();
        x.endDay();
        Checks.due("8 a day gone by", x.send(1, 1, 2, 0, 9, 1, 0, true, 0, true), 7);
        Checks.due("8 is like today", x.stateOf(7), QUEUED);
        x.out(2, true);
        Checks.due("8 to one that is out", x.send(1, 2, 2, 0, 9, 1, 0, true, 0, true), 8);
    }

    private static void sendRefuses() {
        MillstreamPayments x = new MillstreamPayments();
        Checks.index("8 bank -1", x, () -> x.send(-1, 0, 1, 0, 1, 0, 0, true, 0, true));
        Checks.index("8 bank 6", x, () -> x.send(6, 0, 1, 0, 1, 0, 0, true, 0, true));
        Checks.index("8 message -1", x, () -> x.send(0, -1, 1, 0, 1, 0, 0, true, 0, true));
        Checks.index("8 message 100", x, () -> x.send(0, 100, 1, 0, 1, 0, 0, true, 0, true));
        Checks.index("8 to -1", x, () -> x.send(0, 0, -1, 0, 1, 0, 0, true, 0, true));
        Checks.index("8 to 6", x, () -> x.send(0, 0, 6, 0, 1, 0, 0, true, 0, true));
        Checks.index("8 currency -1", x, () -> x.send(0, 0, 1, -1, 1, 0, 0, true, 0, true));
        Checks.index("8 currency 3", x, () -> x.send(0, 0, 1, 3, 1, 0, 0, true, 0, true));
        Checks.index("8 payee -1", x, () -> x.send(0, 0, 1, 0, 1, -1, 0, true, 0, true));
        Checks.index("8 payee 20", x, () -> x.send(0, 0, 1, 0, 1, 20, 0, true, 0, true));
        Checks.argument("8 the same bank", x, () -> x.send(2, 0, 2, 0, 1, 0, 0, true, 0, true));
        Checks.argument("8 amount 0", x, () -> x.send(0, 0, 1, 0, 0, 0, 0, true, 0, true));
        Checks.argument("8 amount 1000001", x, () -> x.send(0, 0, 1, 0, 1000001, 0, 0, true, 0, true));
        Checks.argument("8 rank -1", x, () -> x.send(0, 0, 1, 0, 1, 0, -1, true, 0, true));
        Checks.argument("8 rank 3", x, () -> x.send(0, 0, 1, 0, 1, 0, 3, true, 0, true));
        Checks.argument("8 day -1", x, () -> x.send(0, 0, 1, 0, 1, 0, 0, true, -1, true));
        Checks.argument("8 day 1000", x, () -> x.send(0, 0, 1, 0, 1, 0, 0, true, 1000, true));
        Checks.index("8 order: a name ahead of an amount", x, () -> x.send(0, 0, 1, 0, 0, 20, 0, true, 0, true));
        Checks.index("8 order: banks 6 and 6", x, () -> x.send(6, 0, 6, 0, 1, 0, 0, true, 0, true));
        Checks.due("8 the number was free", real(x, 0, 0, 1, 0, 1), 0);
        Checks.state("8 another amount", x, () -> x.send(0, 0, 1, 0, 2, 1, 0, true, 0, true));
        Checks.state("8 another bank", x, () -> x.send(0, 0, 2, 0, 1, 1, 0, true, 0, true));
        Checks.state("8 another currency", x, () -> x.send(0, 0, 1, 1, 1, 1, 0, true, 0, true));
        Checks.state("8 another payee", x, () -> x.send(0, 0, 1, 0, 1, 2, 0, true, 0, true));
        Checks.state("8 another rank", x, () -> x.send(0, 0, 1, 0, 1, 1, 1, true, 0, true));
        Checks.state("8 for the net", x, () -> x.send(0, 0, 1, 0, 1, 1, 0, false, 0, true));
        Checks.state("8 another day", x, () -> x.send(0, 0, 1, 0, 1, 1, 0, true, 1, true));
        Checks.state("8 may not stay", x, () -> x.send(0, 0, 1, 0, 1, 1, 0, true, 0, false));
        Checks.argument("8 order: not alike, and out of range", x,
                () -> x.send(0, 0, 1, 0, 0, 1, 0, true, 0, true));
        x.out(0, true);
        Checks.state("8 out", x, () -> real(x, 0, 1, 1, 0, 1));
        Checks.state("8 out, for a double, too", x, () -> real(x, 0, 0, 1, 0, 1));
        Checks.argument("8 order: out, and a wrong rank", x, () -> x.send(0, 1, 1, 0, 1, 1, 3, true, 0, true));
        Checks.index("8 order: out, and no such name", x, () -> x.send(0, 1, 1, 0, 1, -1, 3, true, 0, true));
        x.out(0, false);
        Checks.due("8 a double when it is back", real(x, 0, 0, 1, 0, 1), 0);
        Checks.due("8 what was refused was not kept", real(x, 0, 1, 1, 0, 3), 1);
    }

    private static void sendCountsPayments() {
        MillstreamPayments x = new MillstreamPayments();
        for (int i = 0; i < 60; i++) {
            Checks.due("8 payment " + i, real(x, 0, i, 1, 0, 1), i);
        }
        Checks.state("8 there are 60", x, () -> real(x, 0, 60, 1, 0, 1));
        Checks.state("8 of another bank", x, () -> real(x, 1, 0, 2, 0, 1));
        Checks.due("8 a double of them", real(x, 0, 59, 1, 0, 1), 59);
        Checks.due("8 it counts", x.doubles(), 1);
        x.withdraw(3);
        Checks.state("8 a RETURNED one makes no room", x, () -> real(x, 0, 60, 1, 0, 1));
        Checks.due("8 payments", x.payments(), 60);
        x.fund(0, 0, 59);
        Checks.due("8 all settle", x.account(1, 0), 59);
    }

    private static void promise9() {
        MillstreamPayments x = new MillstreamPayments();
        x.fund(0, 0, 10);
        real(x, 0, 4, 1, 0, 10);
        Checks.due("9 none", x.doubles(), 0);
        Checks.due("9 of a FINAL one", real(x, 0, 4, 1, 0, 10), 0);
        Checks.due("9 one", x.doubles(), 1);
        Checks.due("9 no second payment", x.payments(), 1);
        Checks.due("9 nor money", x.account(1, 0), 10);
        real(x, 0, 4, 1, 0, 10);
        real(x, 0, 5, 1, 0, 10);
        x.withdraw(1);
        Checks.due("9 of a RETURNED one", real(x, 0, 5, 1, 0, 10), 1);
        Checks.due("9 three", x.doubles(), 3);
        Checks.due("9 it stays RETURNED", x.stateOf(1), RETURNED);
        Checks.state("9 one that is not alike", x, () -> real(x, 0, 5, 1, 0, 11));
        Checks.due("9 is none", x.doubles(), 3);
        x.endDay();
        Checks.due("9 on a later day", real(x, 0, 5, 1, 0, 10), 1);
        Checks.due("9 four", x.doubles(), 4);
    }

    private static void promise10() {
        MillstreamPayments x = new MillstreamPayments();
        real(x, 0, 0, 1, 0, 10);
        real(x, 1, 0, 0, 1, 10);
        real(x, 1, 1, 0, 0, 10);
        real(x, 0, 1, 1, 1, 10);
        real(x, 2, 0, 0, 1, 10);
        real(x, 1, 2, 2, 1, 10);
        x.send(1, 3, 0, 1, 10, 1, 0, false, 0, true);
        real(x, 1, 4, 0, 2, 10);
        x.withdraw(7);
        x.fund(1, 2, 10);
        real(x, 1, 5, 0, 2, 10);
        Checks.due("10 FINAL", x.stateOf(8), FINAL);
        Checks.index("10 payment -1", x, () -> x.join(-1, 0));
        Checks.index("10 payment 9", x, () -> x.join(9, 0));
        Checks.index("10 other -1", x, () -> x.join(0, -1));
        Checks.index("10 other 9", x, () -> x.join(0, 9));
        Checks.index("10 order", x, () -> x.join(7, 9));
        Checks.state("10 with itself", x, () -> x.join(0, 0));
        Checks.state("10 of one currency", x, () -> x.join(0, 2));
        Checks.state("10 the same way", x, () -> x.join(0, 3));
        Checks.state("10 from a third bank", x, () -> x.join(0, 4));
        Checks.state("10 to a third bank", x, () -> x.join(0, 5));
        Checks.state("10 one for the net", x, () -> x.join(0, 6));
        Checks.state("10 one for the net, first", x, () -> x.join(6, 0));
        Checks.state("10 a RETURNED one", x, () -> x.join(0, 7));
        Checks.state("10 a RETURNED one, first", x, () -> x.join(7, 0));
        Checks.state("10 a FINAL one", x, () -> x.join(0, 8));
        Checks.state("10 a FINAL one, first", x, () -> x.join(8, 0));
        x.join(0, 1);
        Checks.state("10 joined already", x, () -> x.join(1, 0));
        real(x, 1, 6, 0, 2, 10);
        Checks.state("10 the first one is joined", x, () -> x.join(0, 9));
        Checks.state("10 the second one is joined", x, () -> x.join(9, 0));
        x.list(5, true);
        x.send(0, 10, 1, 1, 10, 5, 0, true, 0, true);
        x.send(1, 10, 0, 0, 10, 1, 0, true, 9, true);
        x.join(10, 11);
        Checks.due("10 a HELD one and a WAITING one", x.withdraw(10), 2);
    }

    private static void legsSettleTogether() {
        MillstreamPayments x = new MillstreamPayments();
        x.list(5, true);
        real(x, 0, 0, 1, 0, 10);
        x.send(1, 0, 0, 1, 20, 5, 0, true, 0, true);
        real(x, 0, 1, 1, 0, 3);
        x.join(1, 0);
        x.fund(0, 0, 10);
        x.fund(1, 1, 20);
        Checks.due("10 the other one is HELD, and what is behind", Checks.states(x),
                Checks.list(QUEUED, HELD, QUEUED));
        x.release(1, 0);
        x.release(1, 1);
        Checks.due("10 both at once", Checks.states(x), Checks.list(FINAL, FINAL, QUEUED));
        Checks.due("10 entries in the order of their numbers", Checks.book(x, 2),
                Checks.list(0, 1, 0, 10, 0, 1, 0, 1, 20, 1));
        MillstreamPayments y = new MillstreamPayments();
        real(y, 1, 0, 0, 1, 7);
        real(y, 1, 1, 0, 1, 20);
        real(y, 0, 0, 1, 0, 10);
        y.join(1, 2);
        y.line(1, 1, 20);
        Checks.due("10 one that is first and no leg goes alone", Checks.states(y),
                Checks.list(FINAL, QUEUED, QUEUED));
        MillstreamPayments z = new MillstreamPayments();
        real(z, 1, 0, 0, 1, 700);
        real(z, 1, 1, 0, 1, 20);
        real(z, 0, 0, 1, 0, 10);
        z.join(1, 2);
        z.fund(1, 1, 20);
        z.fund(0, 0, 10);
        Checks.due("10 the other one need not be first", Checks.states(z), Checks.list(QUEUED, FINAL, FINAL));
        MillstreamPayments v = new MillstreamPayments();
        real(v, 0, 0, 1, 0, 10);
        real(v, 1, 0, 0, 1, 20);
        v.join(0, 1);
        v.holiday(1, 0, true);
        v.fund(0, 0, 10);
        v.fund(1, 1, 20);
        Checks.due("10 the place of the other one", Checks.states(v), Checks.list(QUEUED, QUEUED));
        v.limit(1, 0, 1, 19);
        v.holiday(1, 0, false);
        Checks.due("10 the limit of the other one", Checks.states(v), Checks.list(QUEUED, QUEUED));
        v.limit(1, 0, 1, 20);
        Checks.due("10 then both", Checks.states(v), Checks.list(FINAL, FINAL));
    }

    private static void promise11() {
        MillstreamPayments x = new MillstreamPayments();
        x.list(5, true);
        x.send(0, 0, 1, 0, 10, 1, 0, true, 3, true);
        x.send(0, 1, 1, 0, 10, 5, 0, true, 0, true);
        x.send(0, 2, 1, 0, 10, 1, 0, true, 0, true);
        x.send(0, 3, 1, 0, 10, 1, 0, false, 0, true);
        for (int payment = 0; payment < 4; payment++) {
            Checks.due("11 one alone", x.withdraw(payment), 1);
            Checks.due("11 RETURNED", x.stateOf(payment), RETURNED);
            int again = payment;
            Checks.state("11 RETURNED already", x, () -> x.withdraw(again));
        }
        real(x, 0, 4, 1, 0, 10);
        real(x, 1, 4, 0, 1, 10);
        x.join(4, 5);
        x.fund(0, 0, 5);
        real(x, 0, 6, 1, 0, 5);
        Checks.due("11 a leg", x.withdraw(5), 2);
        Checks.due("11 both, and queues are run", Checks.states(x),
                Checks.list(RETURNED, RETURNED, RETURNED, RETURNED, RETURNED, RETURNED, FINAL));
        Checks.state("11 the other leg", x, () -> x.withdraw(4));
        Checks.state("11 FINAL", x, () -> x.withdraw(6));
        Checks.index("11 payment -1", x, () -> x.withdraw(-1));
        Checks.index("11 payment 7", x, () -> x.withdraw(7));
        real(x, 0, 7, 1, 0, 10);
        x.out(0, true);
        Checks.due("11 of a bank that is out", x.withdraw(7), 1);
    }

    private static void promise12() {
        MillstreamPayments x = new MillstreamPayments();
        x.list(5, true);
        x.send(0, 0, 1, 0, 10, 5, 0, true, 0, true);
        x.send(0, 1, 1, 0, 10, 5, 0, false, 0, true);
        Checks.due("12 the first officer", x.release(0, 0), false);
        Checks.due("12 HELD", x.stateOf(0), HELD);
        Checks.state("12 the same officer", x, () -> x.release(0, 0));
        Checks.due("12 the second one", x.release(0, 3), true);
        Checks.due("12 it enters, though listed", x.stateOf(0), QUEUED);
        Checks.state("12 QUEUED", x, () -> x.release(0, 1));
        Checks.due("12 each payment has its officers", x.release(1, 3), false);
        Checks.due("12 the net one", x.release(1, 2), true);
        Checks.due("12 is NETTED", x.stateOf(1), NETTED);
        x.fund(0, 0, 10);
        x.send(0, 2, 1, 0, 10, 5, 0, true, 0, true);
        x.release(2, 1);
        x.list(5, false);
        Checks.due("12 taken off the list", x.stateOf(2), HELD);
        x.endDay();
        Checks.due("12 over a day", x.stateOf(2), HELD);
        x.fund(0, 0, 30);
        Checks.due("12 by the second one", x.release(2, 2), true);
        Checks.due("12 queues are run", x.stateOf(2), FINAL);
        Checks.state("12 FINAL", x, () -> x.release(2, 3));
        x.list(5, true);
        x.send(0, 3, 1, 0, 10, 5, 0, true, 0, true);
        x.holiday(0, 1, true);
        x.release(3, 0);
        x.release(3, 1);
        Checks.due("12 enters on a holiday, too", x.stateOf(3), QUEUED);
        x.send(0, 4, 1, 0, 10, 5, 0, true, 9, true);
        Checks.state("12 WAITING", x, () -> x.release(4, 0));
        Checks.index("12 payment -1", x, () -> x.release(-1, 0));
        Checks.index("12 payment 5", x, () -> x.release(5, 0));
        Checks.index("12 officer -1", x, () -> x.release(0, -1));
        Checks.index("12 officer 4", x, () -> x.release(0, 4));
        Checks.index("12 order: not HELD, and no such officer", x, () -> x.release(2, 4));
        x.send(0, 5, 1, 1, 10, 5, 0, true, 0, true);
        Checks.index("12 no such officer", x, () -> x.release(5, 4));
        Checks.due("12 so the next one is the first", x.release(5, 1), false);
        Checks.state("12 twice", x, () -> x.release(5, 1));
        Checks.due("12 it did not count", x.release(5, 0), true);
    }

    private static void promise13() {
        MillstreamPayments x = new MillstreamPayments();
        x.list(5, true);
        x.send(0, 0, 1, 0, 10, 5, 0, true, 0, true);
        real(x, 1, 0, 0, 1, 10);
        x.send(0, 1, 1, 0, 10, 5, 0, true, 0, true);
        x.join(0, 1);
        Checks.due("13 a leg", x.refuse(0), 2);
        Checks.due("13 both", Checks.states(x), Checks.list(RETURNED, RETURNED, HELD));
        x.release(2, 1);
        Checks.due("13 after one release", x.refuse(2), 1);
        Checks.state("13 RETURNED", x, () -> x.refuse(2));
        real(x, 0, 2, 1, 0, 10);
        Checks.state("13 QUEUED", x, () -> x.refuse(3));
        x.fund(0, 0, 10);
        Checks.state("13 FINAL", x, () -> x.refuse(3));
        x.send(0, 3, 1, 0, 10, 1, 0, false, 0, true);
        Checks.state("13 NETTED", x, () -> x.refuse(4));
        x.send(0, 4, 1, 0, 10, 5, 0, true, 4, true);
        Checks.state("13 WAITING", x, () -> x.refuse(5));
        Checks.index("13 payment -1", x, () -> x.refuse(-1));
        Checks.index("13 payment 6", x, () -> x.refuse(6));
        MillstreamPayments y = new MillstreamPayments();
        y.fund(1, 0, 5);
        real(y, 1, 0, 0, 0, 10);
        real(y, 1, 1, 0, 0, 5);
        y.list(6, true);
        y.send(0, 0, 1, 1, 10, 6, 0, true, 0, true);
        y.join(0, 2);
        y.refuse(2);
        Checks.due("13 queues are run", Checks.states(y), Checks.list(RETURNED, FINAL, RETURNED));
    }

    private static void promise15() {
        MillstreamPayments x = new MillstreamPayments();
        x.fund(0, 0, 1000);
        for (int i = 0; i < 4; i++) {
            real(x, 0, i, 1, 0, 10);
        }
        real(x, 2, 0, 1, 0, 10);
        Checks.state("15 QUEUED", x, () -> x.recall(4));
        Checks.due("15 on the day itself", x.recall(0), 2);
        Checks.state("15 once", x, () -> x.recall(0));
        x.answer(0, false);
        Checks.state("15 once, answered, too", x, () -> x.recall(0));
        x.withdraw(4);
        Checks.state("15 RETURNED", x, () -> x.recall(4));
        x.endDay();
        x.endDay();
        Checks.due("15 two days behind", x.recall(1), 4);
        x.endDay();
        Checks.due("15 three days behind", x.recall(2), 5);
        x.endDay();
        Checks.state("15 four days behind", x, () -> x.recall(3));
        Checks.index("15 payment -1", x, () -> x.recall(-1));
        Checks.index("15 payment 5", x, () -> x.recall(5));
        x.send(0, 9, 1, 0, 10, 1, 0, true, 8, true);
        for (int day = 4; day < 8; day++) {
            x.endDay();
        }
        Checks.due("15 FINAL on the day 8", x.stateOf(5), FINAL);
        x.endDay();
        Checks.due("15 counts from the day on which it became so", x.recall(5), 11);
    }

    private static void promise16() {
        MillstreamPayments x = new MillstreamPayments();
        x.fund(0, 1, 1000);
        for (int i = 0; i < 4; i++) {
            real(x, 0, i, 1, 1, 10 + i);
        }
        Checks.state("16 not recalled", x, () -> x.answer(0, true));
        Checks.state("16 not recalled, with no", x, () -> x.answer(0, false));
        x.recall(0);
        x.recall(1);
        x.recall(2);
        Checks.due("16 with no", x.answer(0, false), NONE);
        Checks.due("16 makes nothing", x.payments(), 4);
        Checks.state("16 answered with no", x, () -> x.answer(0, true));
        x.endDay();
        x.endDay();
        Checks.due("16 two days behind", x.answer(1, true), 4);
        Checks.due("16 it settles", x.stateOf(4), FINAL);
        Checks.due("16 back, of the same amount", Checks.book(x, x.entries() - 1), Checks.list(1, 0, 1, 11, 4));
        Checks.due("16 the other bank's advice", Checks.advices(x, 0), Checks.list(4));
        Checks.state("16 answered with yes", x, () -> x.answer(1, true));
        Checks.state("16 answered with yes, then no", x, () -> x.answer(1, false));
        x.endDay();
        Checks.state("16 too late", x, () -> x.answer(2, true));
        Checks.state("16 too late, with no", x, () -> x.answer(2, false));
        Checks.index("16 payment -1", x, () -> x.answer(-1, true));
        Checks.index("16 payment 5", x, () -> x.answer(5, true));
        Checks.due("16 the payment back can be recalled", x.recall(4), 5);
        Checks.due("16 and be given back", x.answer(4, true), 5);
    }

    private static void answerMakesPayments() {
        MillstreamPayments x = new MillstreamPayments();
        x.fund(0, 0, 60);
        for (int i = 0; i < 6; i++) {
            real(x, 0, i, 1, 0, 10);
        }
        for (int i = 0; i < 6; i++) {
            x.recall(i);
        }
        x.list(0, true);
        Checks.due("16 for the payee 0", x.stateOf(x.answer(0, true)), HELD);
        x.list(0, false);
        x.holiday(0, 0, true);
        Checks.due("16 for today, on a holiday", x.stateOf(x.answer(1, true)), WAITING);
        x.holiday(0, 0, false);
        x.out(1, true);
        x.send(3, 0, 1, 0, 10, 1, 2, true, 0, true);
        Checks.due("16 of a bank that is out", x.stateOf(x.answer(2, true)), QUEUED);
        x.out(1, false);
        Checks.due("16 until it is back", x.stateOf(9), FINAL);
        MillstreamPayments z = new MillstreamPayments();
        z.fund(0, 0, 20);
        real(z, 0, 0, 1, 0, 10);
        real(z, 0, 1, 1, 0, 10);
        z.send(1, 0, 2, 0, 30, 1, 2, true, 0, true);
        z.send(1, 1, 2, 0, 30, 1, 1, true, 0, true);
        z.recall(1);
        z.answer(1, true);
        Checks.due("16 of the rank 2", Checks.queue(z, 1, 0), Checks.list(2, 4, 3));
        z.endDay();
        Checks.due("16 it may stay over", z.stateOf(4), QUEUED);
        MillstreamPayments y = new MillstreamPayments();
        y.fund(0, 0, 10);
        y.fund(2, 0, 10);
        real(y, 0, 0, 1, 0, 10);
        real(y, 2, 0, 1, 0, 10);
        y.recall(0);
        y.recall(1);
        for (int i = 0; i < 58; i++) {
            real(y, 3, i, 4, 0, 10);
        }
        Checks.state("16 there are 60", y, () -> y.answer(0, true));
        Checks.due("16 with no they may be", y.answer(0, false), NONE);
        Checks.state("16 answered", y, () -> y.answer(0, false));
        Checks.due("16 the other one", y.answer(1, false), NONE);
    }
}
