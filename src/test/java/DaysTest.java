/** Promises 17 and 18: the end of a day, its steps in their order. */
public final class DaysTest {
    private static final int WAITING = MillstreamPayments.WAITING;
    private static final int HELD = MillstreamPayments.HELD;
    private static final int QUEUED = MillstreamPayments.QUEUED;
    private static final int NETTED = MillstreamPayments.NETTED;
    private static final int FINAL = MillstreamPayments.FINAL;
    private static final int RETURNED = MillstreamPayments.RETURNED;

    public static void main(String[] args) {
        promise17And18();
        cutOffTakesOutByAccounts();
        cutOffTakesOutByLimits();
        cutOffGoesByLowestPairs();
        cutOffLeavesOut();
        whatMayNotStayIsReturned();
        fees();
        interest();
        waitingOnesEnter();
        theBookHoldsLongRuns();
        Checks.end();
    }

    private static int real(MillstreamPayments x, int bank, int message, int to, int amount) {
        return x.send(bank, message, to, 0, amount, 1, 0, true, 0, true);
    }

    private static int net(MillstreamPayments x, int bank, int message, int to, int amount, int rank) {
        return x.send(bank, message, to, 0, amount, 1, rank, false, 0, true);
    }

    private static void promise17And18() {
        MillstreamPayments x = new MillstreamPayments();
        for (int day = 0; day < 998; day++) {
            Checks.due("18 today", x.today(), day);
            Checks.due("17 nothing becomes FINAL", x.endDay(), 0);
        }
        Checks.due("18 the last day", x.today(), 998);
        Checks.state("17 on the day 998", x, () -> x.endDay());
        Checks.due("17 no entries without fees", x.entries(), 0);
        MillstreamPayments y = new MillstreamPayments();
        y.send(0, 0, 1, 2, 5, 1, 0, false, 0, true);
        y.send(1, 0, 0, 2, 5, 1, 0, false, 0, true);
        y.limit(0, 1, 0, 5);
        y.fund(0, 0, 10);
        real(y, 0, 1, 1, 5);
        real(y, 0, 2, 1, 3);
        Checks.due("17 two by the cut-off, one by the queues of the next day", y.endDay(), 3);
        Checks.due("17 states", Checks.states(y), Checks.list(FINAL, FINAL, FINAL, FINAL));
        Checks.due("17 paid counts from the day's begin", y.paid(0, 1, 0), 3);
        Checks.due("17 of all currencies", y.paid(0, 1, 2), 0);
        MillstreamPayments z = new MillstreamPayments();
        z.list(9, true);
        z.send(0, 0, 1, 0, 5, 1, 0, true, 0, true);
        z.send(1, 0, 0, 1, 5, 9, 0, true, 0, true);
        z.join(0, 1);
        z.fund(0, 0, 5);
        Checks.due("17 a leg whose other one is HELD", z.endDay(), 0);
        z.release(1, 0);
        z.release(1, 1);
        Checks.due("17 or has no money", z.endDay(), 0);
        z.limit(1, 0, 1, 4);
        z.fund(1, 1, 5);
        Checks.due("17 or is beyond a limit", z.endDay(), 0);
    }

    private static void cutOffTakesOutByAccounts() {
        MillstreamPayments x = new MillstreamPayments();
        net(x, 0, 0, 1, 30, 0);
        net(x, 0, 1, 1, 20, 2);
        net(x, 1, 0, 2, 30, 0);
        net(x, 2, 0, 0, 30, 0);
        Checks.due("17 the last by numbers, whatever its rank", x.endDay(), 3);
        Checks.due("17 is taken out", Checks.states(x), Checks.list(FINAL, NETTED, FINAL, FINAL));
        Checks.due("17 in the order of their numbers", Checks.book(x, 0).subList(0, 15),
                Checks.list(0, 1, 0, 30, 0, 1, 2, 0, 30, 2, 2, 0, 0, 30, 3));
        x.fund(0, 0, 100);
        Checks.due("17 money alone does not settle it", x.stateOf(1), NETTED);
        Checks.due("17 the next cut-off does", x.endDay(), 1);
        MillstreamPayments y = new MillstreamPayments();
        net(y, 1, 0, 2, 10, 0);
        net(y, 2, 0, 1, 15, 0);
        net(y, 0, 0, 3, 5, 0);
        net(y, 3, 0, 1, 5, 0);
        y.line(2, 0, 5);
        Checks.due("17 one after the other, by banks; a line counts", y.endDay(), 2);
        Checks.due("17 states by banks", Checks.states(y), Checks.list(FINAL, FINAL, NETTED, NETTED));
        MillstreamPayments z = new MillstreamPayments();
        z.fund(0, 0, 7);
        net(z, 0, 0, 1, 7, 0);
        real(z, 0, 1, 2, 7);
        Checks.due("17 the net can use nothing that is gone", z.endDay(), 0);
        Checks.due("17 it stays NETTED", z.stateOf(0), NETTED);
    }

    private static void cutOffTakesOutByLimits() {
        MillstreamPayments x = new MillstreamPayments();
        x.fund(0, 0, 100);
        x.limit(0, 1, 0, 10);
        net(x, 0, 0, 1, 6, 0);
        net(x, 0, 1, 1, 6, 2);
        net(x, 0, 2, 2, 6, 0);
        Checks.due("17 the last one to that bank", x.endDay(), 2);
        Checks.due("17 by numbers", Checks.states(x), Checks.list(FINAL, NETTED, FINAL));
        MillstreamPayments y = new MillstreamPayments();
        y.fund(0, 0, 100);
        y.limit(0, 1, 0, 10);
        y.limit(0, 2, 0, 0);
        net(y, 0, 0, 1, 16, 0);
        net(y, 1, 0, 0, 6, 0);
        net(y, 0, 1, 2, 6, 0);
        Checks.due("17 what comes back counts", y.endDay(), 2);
        Checks.due("17 another limit", Checks.states(y), Checks.list(FINAL, FINAL, NETTED));
        MillstreamPayments z = new MillstreamPayments();
        z.fund(0, 0, 100);
        z.limit(0, 1, 0, 10);
        real(z, 0, 0, 1, 5);
        net(z, 0, 1, 1, 6, 0);
        Checks.due("17 what was paid on the day counts", z.endDay(), 0);
        Checks.due("17 on the next day it does not", z.endDay(), 1);
    }

    /** Which limit is looked at first shows by what is taken out for accounts in between. */
    private static void cutOffGoesByLowestPairs() {
        MillstreamPayments x = new MillstreamPayments();
        x.fund(0, 0, 10);
        x.fund(1, 0, 11);
        x.limit(0, 2, 0, 0);
        x.limit(1, 0, 0, 0);
        net(x, 0, 0, 2, 10, 0);
        net(x, 1, 0, 0, 10, 0);
        net(x, 1, 1, 3, 5, 0);
        net(x, 2, 0, 1, 4, 0);
        Checks.due("17 0 to 2 goes, so 2 to 1, so 1 to 3, and then 1 to 0", x.endDay(), 0);
        Checks.due("17 none is left", Checks.states(x), Checks.list(NETTED, NETTED, NETTED, NETTED));
        MillstreamPayments y = new MillstreamPayments();
        y.fund(0, 0, 5);
        y.fund(4, 0, 26);
        y.limit(0, 1, 0, 0);
        y.limit(0, 2, 0, 0);
        net(y, 0, 0, 1, 10, 0);
        net(y, 0, 1, 2, 10, 0);
        net(y, 0, 2, 3, 5, 0);
        net(y, 1, 0, 4, 4, 0);
        net(y, 4, 0, 0, 30, 0);
        Checks.due("17 0 to 1 goes, so 1 to 4, so 4 to 0, so 0 to 3 ahead of 0 to 2", y.endDay(), 0);
        MillstreamPayments z = new MillstreamPayments();
        z.fund(1, 0, 10);
        z.limit(1, 0, 0, 5);
        net(z, 1, 0, 0, 3, 0);
        net(z, 1, 1, 0, 3, 0);
        net(z, 1, 2, 5, 3, 0);
        Checks.due("17 a limit for the bank 0", z.endDay(), 2);
        Checks.due("17 the last one to it", Checks.states(z), Checks.list(FINAL, NETTED, FINAL));
        MillstreamPayments v = new MillstreamPayments();
        v.fund(1, 0, 6);
        v.limit(1, 2, 0, 5);
        net(v, 1, 0, 2, 6, 0);
        net(v, 1, 1, 3, 1, 0);
        Checks.due("17 for accounts ahead of limits", v.endDay(), 0);
    }

    private static void cutOffLeavesOut() {
        MillstreamPayments x = new MillstreamPayments();
        x.fund(0, 0, 100);
        x.fund(0, 1, 100);
        net(x, 0, 0, 1, 5, 0);
        net(x, 0, 1, 2, 5, 0);
        x.send(0, 2, 1, 1, 5, 1, 0, false, 0, false);
        x.out(2, true);
        x.holiday(1, 0, true);
        Checks.due("17 no bank that is out, no place that is not open", x.endDay(), 1);
        Checks.due("17 those stay NETTED", Checks.states(x), Checks.list(FINAL, NETTED, NETTED));
        x.out(0, true);
        x.out(2, false);
        Checks.due("17 a bank that pays is out", x.endDay(), 0);
        Checks.due("17 the place was open then: RETURNED", Checks.states(x), Checks.list(FINAL, NETTED, RETURNED));
        x.out(0, false);
        Checks.due("17 then it settles", x.endDay(), 1);
        x.list(9, true);
        x.send(0, 9, 1, 0, 5, 9, 0, false, 0, true);
        Checks.due("17 no HELD one", x.endDay(), 0);
        Checks.due("17 it stays HELD", x.stateOf(3), HELD);
    }

    private static void whatMayNotStayIsReturned() {
        MillstreamPayments x = new MillstreamPayments();
        x.list(9, true);
        x.send(0, 0, 1, 0, 5, 1, 0, true, 0, false);
        x.send(0, 1, 1, 0, 5, 1, 0, true, 0, true);
        x.send(0, 2, 1, 0, 5, 1, 0, false, 0, false);
        x.send(0, 3, 1, 0, 5, 1, 0, false, 0, true);
        x.send(0, 4, 1, 0, 5, 9, 0, true, 0, false);
        x.send(0, 5, 1, 0, 5, 1, 0, true, 2, false);
        x.send(0, 6, 1, 1, 5, 1, 0, true, 0, false);
        x.holiday(1, 0, true);
        x.endDay();
        Checks.due("17 QUEUED and NETTED ones of open places", Checks.states(x),
                Checks.list(RETURNED, QUEUED, RETURNED, NETTED, HELD, WAITING, QUEUED));
        x.endDay();
        Checks.due("17 one day later", Checks.states(x),
                Checks.list(RETURNED, QUEUED, RETURNED, NETTED, HELD, QUEUED, RETURNED));
        MillstreamPayments y = new MillstreamPayments();
        y.send(0, 0, 1, 0, 5, 1, 0, true, 0, false);
        y.send(1, 0, 0, 1, 5, 1, 0, true, 3, true);
        y.join(1, 0);
        y.endDay();
        Checks.due("17 a leg takes its other one with it", Checks.states(y), Checks.list(RETURNED, RETURNED));
        MillstreamPayments z = new MillstreamPayments();
        z.send(0, 0, 1, 0, 5, 1, 0, true, 0, false);
        z.send(1, 0, 0, 0, 9, 1, 0, false, 0, false);
        z.fund(1, 0, 9);
        Checks.due("17 after the cut-off no queues are run ahead of the returns", z.endDay(), 1);
        Checks.due("17 so it is RETURNED", Checks.states(z), Checks.list(RETURNED, FINAL));
    }

    private static void fees() {
        MillstreamPayments x = new MillstreamPayments();
        x.fund(1, 0, 100);
        x.fund(0, 0, 100);
        x.fund(0, 2, 100);
        x.send(1, 0, 0, 0, 1, 1, 0, false, 0, true);
        x.send(1, 1, 0, 0, 1, 1, 0, true, 0, true);
        x.send(1, 2, 0, 0, 1, 1, 0, true, 0, true);
        x.send(0, 0, 1, 2, 1, 1, 0, true, 0, true);
        x.send(0, 1, 1, 0, 1, 1, 0, false, 0, true);
        x.send(0, 2, 1, 0, 1, 1, 0, true, 3, true);
        x.send(0, 3, 1, 0, 1000, 1, 0, true, 0, true);
        int before = x.entries();
        Checks.due("17 cut-off", x.endDay(), 2);
        Checks.due("17 fees by banks, then currencies, behind the cut-off", Checks.book(x, before + 2),
                Checks.list(0, 6, 0, 1, -1, 0, 6, 2, 2, -1, 1, 6, 0, 5, -1));
        Checks.due("17 the switch", x.account(6, 0), 6);
        Checks.due("17 of the other currency", x.account(6, 2), 2);
        Checks.due("17 a bank", x.account(1, 0), 93);
        int after = x.entries();
        x.endDay();
        Checks.due("17 fees are paid once", x.entries(), after);
        x.fund(0, 0, 1000);
        x.recall(6);
        x.answer(6, true);
        int last = x.entries();
        x.endDay();
        Checks.due("17 a payment back costs as much; one that settles at a day's begin counts on that day",
                Checks.book(x, last).subList(0, 10), Checks.list(0, 6, 0, 2, -1, 1, 6, 0, 2, -1));
        x.endDay();
        Checks.due("17 the one of the day 3", x.account(6, 0), 12);
    }

    private static void interest() {
        MillstreamPayments x = new MillstreamPayments();
        int[] lines = {1, 100, 101, 200};
        for (int bank = 0; bank < 4; bank++) {
            x.line(bank, 0, lines[bank]);
            real(x, bank, 0, 4, lines[bank]);
        }
        x.fund(5, 0, 100);
        int before = x.entries();
        x.endDay();
        Checks.due("17 fees first, then interest, rounded up, of what it was ahead of both", Checks.book(x, before),
                Checks.list(0, 6, 0, 2, -1, 0, 6, 0, 1, -1, 1, 6, 0, 2, -1, 1, 6, 0, 1, -1, 2, 6, 0, 2, -1,
                        2, 6, 0, 2, -1, 3, 6, 0, 2, -1, 3, 6, 0, 2, -1));
        Checks.due("17 further below 0 than the line", x.account(3, 0), -204);
        for (int day = 1; day < 6; day++) {
            x.endDay();
        }
        Checks.due("17 day 6", x.today(), 6);
        Checks.due("17 on days on which the place is not open, too", x.account(3, 0), -204 - 5 * 3);
        Checks.due("17 the book tells the same", x.accountAnew(3, 0), -219);
        Checks.due("17 who is above 0 pays none", x.account(5, 0), 100);
    }

    private static void waitingOnesEnter() {
        MillstreamPayments x = new MillstreamPayments();
        x.fund(0, 0, 100);
        x.send(0, 0, 1, 0, 1, 1, 0, true, 1, true);
        x.send(0, 1, 1, 0, 1, 1, 0, false, 1, true);
        x.send(0, 2, 1, 0, 1, 9, 0, true, 1, true);
        x.send(0, 3, 1, 0, 1, 1, 0, true, 2, true);
        x.send(0, 4, 1, 1, 1, 1, 0, true, 1, true);
        x.send(0, 5, 1, 0, 1, 1, 0, true, 5, true);
        x.list(9, true);
        x.holiday(1, 1, true);
        Checks.due("17 one enters and settles", x.endDay(), 1);
        Checks.due("17 enter", Checks.states(x), Checks.list(FINAL, NETTED, HELD, WAITING, WAITING, WAITING));
        x.holiday(1, 1, false);
        Checks.due("17 only then", x.stateOf(4), WAITING);
        Checks.due("17 on the day 2", x.endDay(), 2);
        Checks.due("17 all that have come", Checks.states(x),
                Checks.list(FINAL, FINAL, HELD, FINAL, QUEUED, WAITING));
        for (int day = 2; day < 6; day++) {
            Checks.due("17 not on the days 5 and 6", x.endDay(), 0);
        }
        Checks.due("17 day 6", x.stateOf(5), WAITING);
        Checks.due("17 day 7", x.endDay(), 1);
        Checks.due("17 FINAL", x.stateOf(5), FINAL);
    }

    /** Each account of each bank below 0, to the last of 512 calls; and far more calls, that throw nothing. */
    private static void theBookHoldsLongRuns() {
        MillstreamPayments x = new MillstreamPayments();
        for (int currency = 0; currency < 3; currency++) {
            for (int bank = 0; bank < 6; bank++) {
                x.line(bank, currency, 1000);
            }
            x.send(0, currency, 1, currency, 500, 1, 0, true, 0, true);
        }
        for (int call = 21; call < 512; call++) {
            x.endDay();
        }
        Checks.due("17 one entry a day and account, and fees and payments", x.entries(), 491 * 3 + 6);
        for (int bank = 0; bank < 7; bank++) {
            Checks.due("17 the book balances", x.accountAnew(bank, 2), x.account(bank, 2));
        }
        for (int i = 0; i < 25000; i++) {
            x.fund(i % 6, i % 3, 1);
        }
        Checks.due("17 a call beyond 512 throws nothing", x.entryAt(0, 2), 0);
    }
}
