/** Promises 19 to 28: what is asked, and the advices. */
public final class QuestionsTest {
    private static final int NONE = MillstreamPayments.NONE;

    public static void main(String[] args) {
        promises19And20();
        promise21();
        promises22And23();
        promise24();
        promises25And26();
        promise27();
        promise28();
        Checks.end();
    }

    private static int real(MillstreamPayments x, int bank, int message, int to, int currency, int amount) {
        return x.send(bank, message, to, currency, amount, 1, 0, true, 0, true);
    }

    private static void promises19And20() {
        MillstreamPayments x = new MillstreamPayments();
        x.fund(0, 1, 100);
        real(x, 0, 0, 5, 1, 30);
        Checks.due("19 who paid", x.account(0, 1), 70);
        Checks.due("19 who got", x.account(5, 1), 30);
        Checks.due("19 another currency", x.account(0, 0), 0);
        Checks.due("19 the switch", x.account(6, 1), 0);
        x.endDay();
        Checks.due("19 a fee", x.account(0, 1), 68);
        Checks.due("19 of the switch", x.account(6, 1), 2);
        for (int bank = 0; bank < 7; bank++) {
            for (int currency = 0; currency < 3; currency++) {
                Checks.due("20 the same", x.accountAnew(bank, currency), x.account(bank, currency));
            }
        }
        Checks.due("20 who paid", x.accountAnew(0, 1), 68);
        Checks.due("20 who got", x.accountAnew(5, 1), 30);
        Checks.due("20 the switch", x.accountAnew(6, 1), 2);
        for (int i = 0; i < 3000; i++) {
            x.fund(3, 2, 1000000);
        }
        Checks.due("19 beyond an int", x.account(3, 2), 3000000000L);
        Checks.due("20 beyond an int", x.accountAnew(3, 2), 3000000000L);
        Checks.index("19 bank -1", x, () -> x.account(-1, 0));
        Checks.index("19 bank 7", x, () -> x.account(7, 0));
        Checks.index("19 currency -1", x, () -> x.account(0, -1));
        Checks.index("19 currency 3", x, () -> x.account(0, 3));
        Checks.index("20 bank -1", x, () -> x.accountAnew(-1, 0));
        Checks.index("20 bank 7", x, () -> x.accountAnew(7, 0));
        Checks.index("20 currency -1", x, () -> x.accountAnew(0, -1));
        Checks.index("20 currency 3", x, () -> x.accountAnew(0, 3));
    }

    private static void promise21() {
        MillstreamPayments x = new MillstreamPayments();
        x.fund(0, 2, 100);
        real(x, 0, 0, 1, 2, 30);
        real(x, 0, 1, 1, 2, 500);
        Checks.due("21 by FINAL ones alone", x.paid(0, 1, 2), 30);
        Checks.due("21 below 0", x.paid(1, 0, 2), -30);
        real(x, 1, 0, 0, 2, 20);
        Checks.due("21 less what was paid back", x.paid(0, 1, 2), 10);
        Checks.due("21 the other way", x.paid(1, 0, 2), -10);
        Checks.due("21 another currency", x.paid(0, 1, 1), 0);
        Checks.due("21 another pair", x.paid(0, 2, 2), 0);
        Checks.due("21 itself", x.paid(0, 0, 2), 0);
        x.endDay();
        Checks.due("21 on the next day", x.paid(0, 1, 2), 0);
        Checks.due("21 on the next day, the other way", x.paid(1, 0, 2), 0);
        Checks.index("21 bank -1", x, () -> x.paid(-1, 0, 0));
        Checks.index("21 bank 6", x, () -> x.paid(6, 0, 0));
        Checks.index("21 other -1", x, () -> x.paid(0, -1, 0));
        Checks.index("21 other 6", x, () -> x.paid(0, 6, 0));
        Checks.index("21 currency -1", x, () -> x.paid(0, 1, -1));
        Checks.index("21 currency 3", x, () -> x.paid(0, 1, 3));
    }

    private static void promises22And23() {
        MillstreamPayments x = new MillstreamPayments();
        Checks.index("23 none yet", x, () -> x.stateOf(0));
        x.list(5, true);
        x.send(0, 0, 1, 0, 1, 1, 0, true, 1, true);
        x.send(0, 1, 1, 0, 1, 5, 0, true, 0, true);
        x.send(0, 2, 1, 0, 1, 1, 0, true, 0, true);
        x.send(0, 3, 1, 0, 1, 1, 0, false, 0, true);
        x.fund(2, 0, 1);
        x.send(2, 4, 1, 0, 1, 1, 0, true, 0, true);
        x.send(0, 5, 1, 0, 1, 1, 0, true, 0, true);
        x.withdraw(5);
        Checks.due("22 RETURNED ones, too", x.payments(), 6);
        Checks.due("23 WAITING to RETURNED", Checks.states(x), Checks.list(0, 1, 2, 3, 4, 5));
        x.send(0, 5, 1, 0, 1, 1, 0, true, 0, true);
        Checks.due("22 a double makes none", x.payments(), 6);
        x.recall(4);
        Checks.due("22 a recall makes none", x.payments(), 6);
        x.answer(4, true);
        Checks.due("22 an answer does", x.payments(), 7);
        Checks.index("23 payment -1", x, () -> x.stateOf(-1));
        Checks.index("23 payment 7", x, () -> x.stateOf(7));
        Checks.index("23 far", x, () -> x.stateOf(Integer.MAX_VALUE));
    }

    private static void promise24() {
        MillstreamPayments x = new MillstreamPayments();
        int[] ranks = {1, 0, 2, 1, 0, 2};
        for (int i = 0; i < ranks.length; i++) {
            x.send(0, i, 1 + i % 2, 0, 9, 1, ranks[i], true, 0, true);
        }
        x.send(1, 0, 0, 0, 9, 1, 2, true, 0, true);
        x.send(0, 10, 1, 1, 9, 1, 2, true, 0, true);
        x.send(0, 11, 1, 0, 9, 1, 2, false, 0, true);
        x.send(0, 12, 1, 0, 9, 1, 2, true, 1, true);
        Checks.due("24 by ranks, then numbers", Checks.queue(x, 0, 0), Checks.list(2, 5, 0, 3, 1, 4));
        Checks.due("24 of its own", Checks.queue(x, 1, 0), Checks.list(6));
        Checks.due("24 of its currency", Checks.queue(x, 0, 1), Checks.list(7));
        Checks.due("24 not so many", x.queueAt(0, 0, 6), NONE);
        Checks.due("24 far", x.queueAt(0, 0, Integer.MAX_VALUE), NONE);
        Checks.due("24 none", x.queueAt(5, 2, 0), NONE);
        x.withdraw(5);
        Checks.due("24 without one", Checks.queue(x, 0, 0), Checks.list(2, 0, 3, 1, 4));
        x.list(3, true);
        x.send(0, 20, 1, 0, 9, 3, 1, true, 0, true);
        x.send(0, 21, 1, 0, 9, 1, 1, true, 0, true);
        x.release(10, 0);
        x.release(10, 1);
        Checks.due("24 one that was released stands by its number", Checks.queue(x, 0, 0),
                Checks.list(2, 0, 3, 10, 11, 1, 4));
        Checks.index("24 bank -1", x, () -> x.queueAt(-1, 0, 0));
        Checks.index("24 bank 6", x, () -> x.queueAt(6, 0, 0));
        Checks.index("24 currency -1", x, () -> x.queueAt(0, -1, 0));
        Checks.index("24 currency 3", x, () -> x.queueAt(0, 3, 0));
        Checks.index("24 place -1", x, () -> x.queueAt(0, 0, -1));
    }

    private static void promises25And26() {
        MillstreamPayments x = new MillstreamPayments();
        Checks.index("26 none yet", x, () -> x.entryAt(0, 0));
        x.fund(3, 2, 77);
        Checks.due("25 one", x.entries(), 1);
        Checks.due("26 from outside", Checks.book(x, 0), Checks.list(NONE, 3, 2, 77, NONE));
        real(x, 4, 0, 5, 2, 1);
        real(x, 3, 0, 5, 2, 70);
        Checks.due("25 two", x.entries(), 2);
        Checks.due("26 a payment", Checks.book(x, 1), Checks.list(3, 5, 2, 70, 1));
        x.endDay();
        Checks.due("25 three", x.entries(), 3);
        Checks.due("26 a fee", Checks.book(x, 2), Checks.list(3, 6, 2, 2, NONE));
        Checks.index("26 entry -1", x, () -> x.entryAt(-1, 0));
        Checks.index("26 entry 3", x, () -> x.entryAt(3, 0));
        Checks.argument("26 what -1", x, () -> x.entryAt(0, -1));
        Checks.argument("26 what 5", x, () -> x.entryAt(0, 5));
        Checks.index("26 order", x, () -> x.entryAt(3, 5));
    }

    /** A bank with three advices, of the payments 1, 0 and 2, in the order in which they became FINAL. */
    private static MillstreamPayments withAdvices() {
        MillstreamPayments x = new MillstreamPayments();
        x.fund(1, 0, 10);
        real(x, 0, 0, 2, 0, 5);
        real(x, 1, 0, 2, 0, 5);
        x.fund(0, 0, 10);
        real(x, 0, 1, 2, 0, 5);
        real(x, 1, 1, 0, 0, 5);
        return x;
    }

    private static void promise27() {
        MillstreamPayments x = withAdvices();
        Checks.due("27 in the order in which they became FINAL", Checks.advices(x, 2), Checks.list(1, 0, 2));
        Checks.due("27 none any more", x.advice(2), NONE);
        Checks.due("27 none", x.advice(1), NONE);
        Checks.due("27 each bank has its own", Checks.advices(x, 0), Checks.list(3));
        MillstreamPayments y = withAdvices();
        Checks.due("27 the first one", y.advice(2), 1);
        y.out(2, true);
        Checks.due("27 out", y.advice(2), NONE);
        y.out(2, false);
        Checks.due("27 it was not taken", y.advice(2), 0);
        real(y, 0, 9, 2, 0, 1);
        y.fund(0, 0, 1);
        Checks.due("27 later ones follow", Checks.advices(y, 2), Checks.list(2, 4));
        Checks.index("27 bank -1", x, () -> x.advice(-1));
        Checks.index("27 bank 6", x, () -> x.advice(6));
    }

    private static void promise28() {
        MillstreamPayments x = withAdvices();
        Checks.argument("28 it had taken none", x, () -> x.again(2, 1));
        Checks.due("28 from the first one", x.again(2, 0), 3);
        x.advice(2);
        x.advice(2);
        Checks.argument("28 it had taken two", x, () -> x.again(2, 3));
        Checks.due("28 from where it stands", x.again(2, 2), 1);
        Checks.due("28 from the second one on", x.again(2, 1), 2);
        Checks.due("28 the second one", x.advice(2), 0);
        Checks.due("28 from the first one on", x.again(2, 0), 3);
        Checks.argument("28 below 0", x, () -> x.again(2, -1));
        Checks.argument("28 still at most two", x, () -> x.again(2, 3));
        Checks.due("28 forth to where it had been", x.again(2, 2), 1);
        x.again(2, 0);
        Checks.due("28 all again", Checks.advices(x, 2), Checks.list(1, 0, 2));
        Checks.due("28 none is left", x.again(2, 3), 0);
        Checks.due("28 of a bank with none", x.again(5, 0), 0);
        Checks.argument("28 each bank has its own", x, () -> x.again(5, 1));
        Checks.index("28 bank -1", x, () -> x.again(-1, 0));
        Checks.index("28 bank 6", x, () -> x.again(6, 0));
        Checks.index("28 order", x, () -> x.again(6, -1));
    }
}
