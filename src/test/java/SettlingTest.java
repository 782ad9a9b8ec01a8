/** Promise 14, and how queues are run: what settles alone, what settles at once, and in which order. */
public final class SettlingTest {
    private static final int WAITING = MillstreamPayments.WAITING;
    private static final int QUEUED = MillstreamPayments.QUEUED;
    private static final int FINAL = MillstreamPayments.FINAL;

    public static void main(String[] args) {
        queuesAreRunInOrder();
        onlyTheFirstSettles();
        promise14();
        offsetTakesOutByAccounts();
        offsetTakesOutByLimits();
        offsetLeavesOut();
        offsetRunsTheQueues();
        Checks.end();
    }

    private static int real(MillstreamPayments x, int bank, int message, int to, int amount, int rank) {
        return x.send(bank, message, to, 0, amount, 1, rank, true, 0, true);
    }

    private static void queuesAreRunInOrder() {
        MillstreamPayments x = new MillstreamPayments();
        x.out(5, true);
        x.line(0, 0, 100);
        x.line(1, 0, 100);
        x.line(0, 1, 100);
        x.send(0, 0, 5, 1, 1, 1, 0, true, 0, true);
        real(x, 1, 0, 5, 1, 0);
        real(x, 0, 1, 5, 1, 0);
        real(x, 0, 2, 5, 1, 2);
        real(x, 1, 1, 5, 1, 1);
        x.out(5, false);
        Checks.due("currencies, then banks, one of each queue, then again", Checks.advices(x, 5),
                Checks.list(3, 4, 0, 2, 1));
        MillstreamPayments y = new MillstreamPayments();
        y.fund(5, 0, 1);
        for (int bank = 0; bank < 5; bank++) {
            real(y, bank, 0, bank == 0 ? 3 : bank - 1, 2, 0);
        }
        real(y, 5, 0, 4, 1, 0);
        y.fund(4, 0, 1);
        Checks.due("as long as something settles", Checks.states(y),
                Checks.list(FINAL, FINAL, FINAL, FINAL, FINAL, FINAL));
        Checks.due("in rounds", Checks.book(y, 3).get(4), 4);
    }

    private static void onlyTheFirstSettles() {
        MillstreamPayments x = new MillstreamPayments();
        real(x, 0, 0, 1, 50, 0);
        real(x, 0, 1, 1, 5, 0);
        real(x, 0, 2, 1, 60, 1);
        real(x, 0, 3, 1, 5, 2);
        Checks.due("by ranks, then numbers", Checks.queue(x, 0, 0), Checks.list(3, 2, 0, 1));
        x.fund(0, 0, 64);
        Checks.due("the second one hinders those behind it", Checks.states(x),
                Checks.list(QUEUED, QUEUED, QUEUED, FINAL));
        x.withdraw(2);
        Checks.due("then they settle", Checks.states(x).subList(0, 2), Checks.list(FINAL, FINAL));
    }

    private static void promise14() {
        MillstreamPayments x = new MillstreamPayments();
        real(x, 0, 0, 1, 50, 0);
        real(x, 1, 0, 2, 50, 0);
        real(x, 2, 0, 0, 50, 0);
        Checks.due("14 nothing of another currency", x.offset(1), 0);
        Checks.due("14 a ring", x.offset(0), 3);
        Checks.due("14 all are FINAL", Checks.states(x), Checks.list(FINAL, FINAL, FINAL));
        Checks.due("14 in the order of their numbers", Checks.book(x, 0),
                Checks.list(0, 1, 0, 50, 0, 1, 2, 0, 50, 1, 2, 0, 0, 50, 2));
        Checks.due("14 paid", x.paid(2, 0, 0), 50);
        Checks.due("14 again", x.offset(0), 0);
        x.send(0, 1, 1, 2, 50, 1, 0, true, 0, true);
        x.send(1, 1, 0, 2, 50, 1, 0, true, 0, true);
        x.holiday(2, 0, true);
        Checks.due("14 the place is not open", x.offset(2), 0);
        Checks.due("14 nothing is done", x.stateOf(3), QUEUED);
        x.holiday(2, 0, false);
        Checks.due("14 the last currency", x.offset(2), 2);
        Checks.index("14 currency -1", x, () -> x.offset(-1));
        Checks.index("14 currency 3", x, () -> x.offset(3));
    }

    private static void offsetTakesOutByAccounts() {
        MillstreamPayments x = new MillstreamPayments();
        real(x, 0, 0, 1, 30, 2);
        real(x, 0, 1, 1, 20, 1);
        real(x, 0, 2, 1, 15, 1);
        real(x, 1, 0, 0, 50, 0);
        Checks.due("14 the last by the queue is taken out", x.offset(0), 3);
        Checks.due("14 not the last by ranks alone", Checks.states(x), Checks.list(FINAL, FINAL, QUEUED, FINAL));
        MillstreamPayments y = new MillstreamPayments();
        real(y, 0, 0, 1, 10, 0);
        real(y, 0, 1, 1, 10, 2);
        real(y, 1, 0, 0, 10, 0);
        Checks.due("14 a lower rank, though an earlier number", y.offset(0), 2);
        Checks.due("14 is taken out", Checks.states(y), Checks.list(QUEUED, FINAL, FINAL));
        MillstreamPayments z = new MillstreamPayments();
        real(z, 1, 0, 2, 40, 0);
        real(z, 2, 0, 1, 10, 0);
        real(z, 2, 1, 3, 40, 0);
        real(z, 3, 0, 2, 10, 0);
        z.line(1, 0, 29);
        Checks.due("14 the lowest bank goes first", z.offset(0), 0);
        z.line(1, 0, 30);
        Checks.due("14 a line counts", z.offset(0), 4);
        Checks.due("14 account 1", z.account(1, 0), -30);
        Checks.due("14 account 2", z.account(2, 0), 0);
        Checks.due("14 account 3", z.account(3, 0), 30);
    }

    private static void offsetTakesOutByLimits() {
        MillstreamPayments x = new MillstreamPayments();
        x.limit(0, 1, 0, 4);
        x.line(0, 0, 6);
        x.line(1, 0, 15);
        real(x, 0, 0, 1, 20, 0);
        real(x, 0, 1, 1, 7, 2);
        real(x, 1, 0, 0, 22, 0);
        real(x, 0, 2, 2, 1, 0);
        Checks.due("14 nothing settles alone", Checks.states(x), Checks.list(QUEUED, QUEUED, QUEUED, QUEUED));
        Checks.due("14 27 - 22 is beyond 4: the last one to that bank is taken out", x.offset(0), 3);
        Checks.due("14 by its queue", Checks.states(x), Checks.list(QUEUED, FINAL, FINAL, FINAL));
        Checks.due("14 account", x.account(0, 0), 14);
        MillstreamPayments y = new MillstreamPayments();
        y.fund(0, 0, 10);
        real(y, 0, 0, 1, 10, 0);
        y.limit(0, 1, 0, 5);
        real(y, 0, 1, 1, 5, 0);
        real(y, 1, 0, 2, 30, 2);
        y.send(2, 0, 1, 1, 30, 1, 0, true, 0, true);
        y.join(2, 3);
        real(y, 1, 1, 0, 5, 0);
        Checks.due("14 above a limit already, but nothing more is paid", y.offset(0), 2);
        Checks.due("14 so both settle", Checks.states(y), Checks.list(FINAL, FINAL, QUEUED, QUEUED, FINAL));
    }

    private static void offsetLeavesOut() {
        MillstreamPayments x = new MillstreamPayments();
        x.list(5, true);
        real(x, 0, 0, 1, 10, 0);
        real(x, 1, 0, 0, 10, 0);
        x.send(1, 1, 0, 1, 10, 5, 0, true, 0, true);
        x.join(0, 2);
        Checks.due("14 no legs", x.offset(0), 0);
        x.send(2, 0, 3, 0, 10, 1, 0, true, 0, true);
        x.send(3, 0, 2, 0, 10, 1, 0, true, 0, true);
        x.out(2, true);
        Checks.due("14 no banks that are out", x.offset(0), 0);
        x.out(2, false);
        Checks.due("14 the two others", x.offset(0), 2);
        x.send(2, 1, 3, 0, 10, 1, 0, false, 0, true);
        x.send(3, 1, 2, 0, 10, 1, 0, false, 0, true);
        Checks.due("14 no NETTED ones", x.offset(0), 0);
        x.send(4, 1, 5, 0, 10, 1, 0, true, 1, true);
        x.send(5, 1, 4, 0, 10, 1, 0, true, 1, true);
        Checks.due("14 no WAITING ones", x.offset(0), 0);
        Checks.due("14 still WAITING", x.stateOf(7), WAITING);
        x.send(4, 2, 5, 0, 10, 5, 0, true, 0, true);
        x.send(5, 2, 4, 0, 10, 5, 0, true, 0, true);
        Checks.due("14 no HELD ones", x.offset(0), 0);
    }

    private static void offsetRunsTheQueues() {
        MillstreamPayments x = new MillstreamPayments();
        real(x, 0, 0, 1, 10, 2);
        real(x, 1, 0, 0, 15, 2);
        real(x, 0, 1, 2, 5, 0);
        x.send(2, 0, 0, 1, 5, 1, 0, true, 0, true);
        x.join(2, 3);
        x.fund(2, 1, 5);
        x.line(1, 0, 5);
        Checks.due("14 nothing yet", Checks.states(x), Checks.list(QUEUED, QUEUED, QUEUED, QUEUED));
        Checks.due("14 how many by the set", x.offset(0), 2);
        Checks.due("14 then the legs by the queues", Checks.states(x), Checks.list(FINAL, FINAL, FINAL, FINAL));
    }
}
