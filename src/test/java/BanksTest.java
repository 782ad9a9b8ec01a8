/** Promises 1 to 7: a new object, and what is set for banks, places and names. */
public final class BanksTest {
    private static final int NONE = MillstreamPayments.NONE;
    private static final int QUEUED = MillstreamPayments.QUEUED;
    private static final int HELD = MillstreamPayments.HELD;
    private static final int NETTED = MillstreamPayments.NETTED;
    private static final int FINAL = MillstreamPayments.FINAL;

    public static void main(String[] args) {
        promise1();
        promise2();
        promise3();
        promise4();
        limitsCountWhatIsPaidBack();
        promise5();
        promise6();
        promise7();
        Checks.end();
    }

    private static int real(MillstreamPayments x, int bank, int message, int to, int amount) {
        return x.send(bank, message, to, 0, amount, 1, 0, true, 0, true);
    }

    private static void promise1() {
        MillstreamPayments x = new MillstreamPayments();
        Checks.due("1 today", x.today(), 0);
        Checks.due("1 payments", x.payments(), 0);
        Checks.due("1 doubles", x.doubles(), 0);
        Checks.due("1 entries", x.entries(), 0);
        for (int currency = 0; currency < 3; currency++) {
            for (int bank = 0; bank < 7; bank++) {
                Checks.due("1 account", x.account(bank, currency), 0);
                Checks.due("1 accountAnew", x.accountAnew(bank, currency), 0);
            }
            for (int bank = 0; bank < 6; bank++) {
                Checks.due("1 line", x.line(bank, currency, 0), 0);
                Checks.due("1 queue", x.queueAt(bank, currency, 0), NONE);
                for (int other = 0; other < 6; other++) {
                    Checks.due("1 paid", x.paid(bank, other, currency), 0);
                    if (other != bank) {
                        Checks.due("1 limit", x.limit(bank, other, currency, NONE), NONE);
                    }
                }
            }
            for (int day = 0; day < 1000; day++) {
                Checks.due("1 no holiday " + day, new MillstreamPayments().holiday(currency, day, false),
                        day % 7 != 5 && day % 7 != 6);
            }
        }
        for (int bank = 0; bank < 6; bank++) {
            Checks.due("1 out", x.out(bank, false), false);
            Checks.due("1 advice", x.advice(bank), NONE);
        }
        for (int name = 0; name < 20; name++) {
            int payment = x.send(0, name, 1, 0, 5, name, 0, true, 0, true);
            Checks.due("1 not listed " + name, x.stateOf(payment), QUEUED);
        }
        MillstreamPayments open = new MillstreamPayments();
        for (int currency = 0; currency < 3; currency++) {
            open.fund(0, currency, 1);
            open.send(0, currency, 1, currency, 1, 1, 0, true, 0, true);
            Checks.due("1 open today", open.stateOf(currency), FINAL);
        }
    }

    private static void promise2() {
        MillstreamPayments x = new MillstreamPayments();
        Checks.due("2 first", x.fund(0, 0, 1), 1);
        Checks.due("2 more", x.fund(0, 0, 1000000), 1000001);
        Checks.due("2 last bank and currency", x.fund(5, 2, 7), 7);
        Checks.due("2 that account alone", x.account(5, 1), 0);
        Checks.due("2 book", Checks.book(x, 0), Checks.list(-1, 0, 0, 1, -1, -1, 0, 0, 1000000, -1, -1, 5, 2, 7, -1));
        real(x, 1, 1, 2, 30);
        real(x, 2, 1, 1, 5);
        Checks.due("2 then the queues were run: 40 - 30 + 5", x.fund(1, 0, 40), 15);
        Checks.due("2 states", Checks.states(x), Checks.list(FINAL, FINAL));
        Checks.index("2 bank -1", x, () -> x.fund(-1, 0, 1));
        Checks.index("2 bank 6", x, () -> x.fund(6, 0, 1));
        Checks.index("2 currency -1", x, () -> x.fund(0, -1, 1));
        Checks.index("2 currency 3", x, () -> x.fund(0, 3, 1));
        Checks.argument("2 amount 0", x, () -> x.fund(0, 0, 0));
        Checks.argument("2 amount 1000001", x, () -> x.fund(0, 0, 1000001));
        Checks.argument("2 least amount", x, () -> x.fund(0, 0, Integer.MIN_VALUE));
        Checks.index("2 order", x, () -> x.fund(0, 3, 0));
    }

    private static void promise3() {
        MillstreamPayments x = new MillstreamPayments();
        int payment = real(x, 0, 1, 1, 10);
        Checks.due("3 before", x.line(0, 0, 9), 0);
        Checks.due("3 one too small", x.stateOf(payment), QUEUED);
        Checks.due("3 line of another currency", x.line(0, 1, 100), 0);
        Checks.due("3 line of another bank", x.line(1, 0, 100), 0);
        Checks.due("3 still", x.stateOf(payment), QUEUED);
        Checks.due("3 just enough", x.line(0, 0, 10), 9);
        Checks.due("3 queues are run", x.stateOf(payment), FINAL);
        Checks.due("3 as far below 0 as the line", x.account(0, 0), -10);
        Checks.due("3 lower than what is used", x.line(0, 0, 0), 10);
        Checks.due("3 the account stays", x.account(0, 0), -10);
        int back = real(x, 1, 1, 0, 4);
        Checks.due("3 an account that has more by it may be too low", x.stateOf(back), FINAL);
        Checks.due("3 or no less", x.stateOf(real(x, 1, 2, 2, 3)), FINAL);
        Checks.due("3 most", x.line(0, 0, 1000000), 0);
        Checks.due("3 least", x.line(0, 0, 0), 1000000);
        Checks.index("3 bank -1", x, () -> x.line(-1, 0, 1));
        Checks.index("3 bank 6", x, () -> x.line(6, 0, 1));
        Checks.index("3 currency -1", x, () -> x.line(0, -1, 1));
        Checks.index("3 currency 3", x, () -> x.line(0, 3, 1));
        Checks.argument("3 line -1", x, () -> x.line(0, 0, -1));
        Checks.argument("3 line 1000001", x, () -> x.line(0, 0, 1000001));
        Checks.index("3 order", x, () -> x.line(6, 0, -1));
        Checks.due("3 nothing was changed", x.line(0, 0, 0), 0);
    }

    private static void promise4() {
        MillstreamPayments x = new MillstreamPayments();
        x.fund(0, 0, 1000);
        Checks.due("4 before", x.limit(0, 1, 0, 10), NONE);
        int first = real(x, 0, 1, 1, 10);
        Checks.due("4 up to the limit", x.stateOf(first), FINAL);
        int second = real(x, 0, 2, 1, 1);
        Checks.due("4 beyond it", x.stateOf(second), QUEUED);
        Checks.due("4 of another currency", x.limit(0, 1, 1, 500), NONE);
        Checks.due("4 of the other one", x.limit(1, 0, 0, 500), NONE);
        Checks.due("4 for a third one", x.limit(0, 2, 0, 500), NONE);
        Checks.due("4 still", x.stateOf(second), QUEUED);
        Checks.due("4 raised", x.limit(0, 1, 0, 11), 10);
        Checks.due("4 queues are run", x.stateOf(second), FINAL);
        Checks.due("4 none", x.limit(0, 1, 0, 0), 11);
        int third = real(x, 0, 3, 1, 1);
        Checks.due("4 a limit of 0 is one", x.stateOf(third), QUEUED);
        Checks.due("4 taken away", x.limit(0, 1, 0, NONE), 0);
        Checks.due("4 no limit", x.stateOf(third), FINAL);
        Checks.due("4 most", x.limit(0, 1, 0, 1000000), NONE);
        Checks.due("4 back", x.limit(0, 1, 0, NONE), 1000000);
        Checks.index("4 bank -1", x, () -> x.limit(-1, 0, 0, 0));
        Checks.index("4 bank 6", x, () -> x.limit(6, 0, 0, 0));
        Checks.index("4 other -1", x, () -> x.limit(0, -1, 0, 0));
        Checks.index("4 other 6", x, () -> x.limit(0, 6, 0, 0));
        Checks.index("4 currency -1", x, () -> x.limit(0, 1, -1, 0));
        Checks.index("4 currency 3", x, () -> x.limit(0, 1, 3, 0));
        Checks.argument("4 both the same", x, () -> x.limit(2, 2, 0, 0));
        Checks.argument("4 limit -2", x, () -> x.limit(0, 1, 0, -2));
        Checks.argument("4 limit 1000001", x, () -> x.limit(0, 1, 0, 1000001));
        Checks.index("4 order: both 6", x, () -> x.limit(6, 6, 0, 0));
        Checks.index("4 order", x, () -> x.limit(0, 1, 3, -2));
        Checks.due("4 nothing was changed", x.limit(0, 1, 0, NONE), NONE);
    }

    private static void limitsCountWhatIsPaidBack() {
        MillstreamPayments x = new MillstreamPayments();
        x.fund(0, 0, 1000);
        x.fund(1, 0, 1000);
        x.limit(0, 1, 0, 10);
        real(x, 0, 1, 1, 10);
        int waits = real(x, 0, 2, 1, 8);
        Checks.due("4 at the limit", x.stateOf(waits), QUEUED);
        real(x, 1, 1, 0, 7);
        Checks.due("4 paid 10 - 7, and 8 is too much", x.stateOf(waits), QUEUED);
        real(x, 1, 2, 0, 1);
        Checks.due("4 paid 10 - 8, and 8 is not", x.stateOf(waits), FINAL);
        Checks.due("4 at the limit again", x.paid(0, 1, 0), 10);
        x.limit(0, 1, 0, 3);
        int back = real(x, 1, 3, 0, 1);
        Checks.due("4 who pays less is not hindered above its limit", x.stateOf(back), FINAL);
        int tomorrow = real(x, 0, 3, 1, 3);
        Checks.due("4 today it is hindered", x.stateOf(tomorrow), QUEUED);
        Checks.due("4 on the next day it counts no more", x.endDay(), 1);
        Checks.due("4 so it settles", x.stateOf(tomorrow), FINAL);
    }

    private static void promise5() {
        MillstreamPayments x = new MillstreamPayments();
        x.fund(0, 0, 100);
        Checks.due("5 was not", x.out(1, true), false);
        Checks.due("5 was", x.out(1, true), true);
        int toIt = real(x, 0, 1, 1, 10);
        Checks.due("5 nothing settles to it", x.stateOf(toIt), QUEUED);
        int behind = real(x, 0, 2, 2, 10);
        Checks.due("5 behind it in the queue", x.stateOf(behind), QUEUED);
        Checks.state("5 it sends nothing", x, () -> real(x, 1, 1, 0, 1));
        Checks.due("5 nor takes advices", x.advice(1), NONE);
        Checks.due("5 back", x.out(1, false), true);
        Checks.due("5 queues are run", Checks.states(x), Checks.list(FINAL, FINAL));
        Checks.due("5 was not any more", x.out(1, false), false);
        Checks.due("5 the last bank", x.out(5, true), false);
        x.out(0, true);
        Checks.due("5 money may come", x.fund(0, 0, 1), 81);
        MillstreamPayments y = new MillstreamPayments();
        int fromIt = real(y, 0, 1, 1, 10);
        y.out(0, true);
        y.fund(0, 0, 10);
        Checks.due("5 nothing settles from it", y.stateOf(fromIt), QUEUED);
        y.out(0, false);
        Checks.due("5 then it does", y.stateOf(fromIt), FINAL);
        Checks.index("5 bank -1", x, () -> x.out(-1, true));
        Checks.index("5 bank 6", x, () -> x.out(6, true));
    }

    private static void promise6() {
        MillstreamPayments x = new MillstreamPayments();
        Checks.due("6 a holiday", x.holiday(0, 0, true), false);
        Checks.due("6 none of another place", x.holiday(1, 0, false), true);
        int waiting = real(x, 0, 1, 1, 1);
        Checks.due("6 place not open", x.stateOf(waiting), MillstreamPayments.WAITING);
        Checks.due("6 taken away", x.holiday(0, 0, false), true);
        Checks.due("6 what waits enters only at a day's begin", x.stateOf(waiting), MillstreamPayments.WAITING);
        int queued = real(x, 0, 2, 1, 5);
        Checks.due("6 enters", x.stateOf(queued), QUEUED);
        x.holiday(0, 0, true);
        x.fund(0, 0, 5);
        Checks.due("6 nothing settles on a holiday", x.stateOf(queued), QUEUED);
        Checks.due("6 none again", x.holiday(0, 0, false), true);
        Checks.due("6 queues are run", x.stateOf(queued), FINAL);
        for (int day = 0; day < 14; day++) {
            Checks.due("6 day " + day, x.holiday(2, day, false), day % 7 < 5);
            Checks.due("6 holiday " + day, x.holiday(2, day, true), false);
            Checks.due("6 day " + day + " again", x.holiday(2, day, false), day % 7 < 5);
        }
        Checks.due("6 the last day", x.holiday(2, 999, true), false);
        Checks.due("6 the last day is one otherwise", x.holiday(2, 999, false), 999 % 7 < 5);
        x.endDay();
        Checks.due("6 a day gone by", x.holiday(1, 0, true), false);
        Checks.index("6 currency -1", x, () -> x.holiday(-1, 0, true));
        Checks.index("6 currency 3", x, () -> x.holiday(3, 0, true));
        Checks.argument("6 day -1", x, () -> x.holiday(0, -1, true));
        Checks.argument("6 day 1000", x, () -> x.holiday(0, 1000, true));
        Checks.index("6 order", x, () -> x.holiday(3, 1000, true));
    }

    private static void promise7() {
        MillstreamPayments x = new MillstreamPayments();
        x.send(0, 1, 1, 0, 10, 3, 0, true, 0, true);
        x.send(0, 2, 1, 0, 10, 3, 0, false, 0, true);
        x.send(0, 3, 1, 0, 10, 4, 0, true, 0, true);
        x.send(0, 4, 1, 0, 10, 3, 0, true, 1, true);
        x.send(0, 5, 1, 1, 10, 3, 0, true, 0, true);
        x.withdraw(4);
        Checks.due("7 the QUEUED and the NETTED one", x.list(3, true), 2);
        Checks.due("7 states", Checks.states(x), Checks.list(HELD, HELD, QUEUED, MillstreamPayments.WAITING,
                MillstreamPayments.RETURNED));
        Checks.due("7 again", x.list(3, true), 0);
        Checks.due("7 off", x.list(3, false), 0);
        Checks.due("7 what is HELD stays so", x.stateOf(0), HELD);
        x.release(0, 0);
        Checks.due("7 one officer is not enough", x.list(3, true), 0);
        x.release(0, 1);
        Checks.due("7 released", x.stateOf(0), QUEUED);
        Checks.due("7 what was released is not HELD", x.list(3, true), 0);
        Checks.due("7 still", x.stateOf(0), QUEUED);
        x.endDay();
        Checks.due("7 what enters is HELD", x.stateOf(3), HELD);
        MillstreamPayments y = new MillstreamPayments();
        y.fund(0, 0, 5);
        y.send(0, 1, 1, 0, 10, 3, 1, true, 0, true);
        y.send(0, 2, 1, 0, 5, 4, 0, true, 0, true);
        Checks.due("7 behind a first one", y.stateOf(1), QUEUED);
        Checks.due("7 the first one", y.list(3, true), 1);
        Checks.due("7 queues are run", y.stateOf(1), FINAL);
        Checks.due("7 the last name", y.list(19, true), 0);
        y.send(0, 3, 1, 0, 5, 19, 0, false, 0, true);
        Checks.due("7 for the net, too", y.stateOf(2), HELD);
        y.list(19, false);
        y.send(0, 4, 1, 0, 5, 19, 0, false, 0, true);
        Checks.due("7 not any more", y.stateOf(3), NETTED);
        Checks.index("7 name -1", x, () -> x.list(-1, true));
        Checks.index("7 name 20", x, () -> x.list(20, true));
    }
}
