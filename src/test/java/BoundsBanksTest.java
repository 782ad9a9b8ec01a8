/** The boundary cases of the promises 1 to 7. Each test names its promise and its sentence. */
public final class BoundsBanksTest extends Bounds {
    public static void main(String[] args) throws ReflectiveOperationException {
        runAll(BoundsBanksTest.class);
    }

    /** Promise 1: "The day 0; empty accounts, no lines, limits, holidays and listed names; no bank is out." */
    static void newObject() {
        MillstreamPayments changed = busy();
        changed.list(0, true);
        MillstreamPayments x = new MillstreamPayments();
        due("the day 0", x.today(), 0);
        due("no payments, doubles, entries", x.payments() + x.doubles() + x.entries(), 0);
        for (int currency = 0; currency < 3; currency++) {
            for (int bank = 0; bank < 6; bank++) {
                due("an empty account", x.account(bank, currency), 0);
                due("no line", x.line(bank, currency, 0), 0);
                due("not out", x.out(bank, false), false);
                for (int other = 0; other < 6; other++) {
                    due("no limit", other == bank ? NONE : x.limit(bank, other, currency, NONE), NONE);
                }
            }
            due("the switch", x.account(6, currency), 0);
            due("no holiday on the day 0", x.stateOf(paying(x, 0, currency, 1, currency, 1)), QUEUED);
            due("1 of money, no limit", x.fund(0, currency, 1), 0);
            due("that was enough", x.stateOf(currency), FINAL);
        }
        for (int name = 0; name < 20; name++) {
            int payment = x.send(2, name, 1, 0, 5, name, 0, false, 0, true);
            due("the name " + name + " is not listed", x.stateOf(payment), NETTED);
        }
        MillstreamPayments days = new MillstreamPayments();
        for (int day = 0; day < 7; day++) {
            for (int currency = 0; currency < 3; currency++) {
                int payment = days.send(0, 3 * day + currency, 1, currency, 1, 1, 0, true, 0, true);
                due("no holiday on the day " + day, days.stateOf(payment), day < 5 ? QUEUED : WAITING);
            }
            days.endDay();
        }
    }

    /** Promise 2: "bank: 0 to 5" */
    static void fundBank() {
        range("bank", INDEX, 0, 5, (x, v) -> x.fund(v, 0, 1));
        MillstreamPayments x = new MillstreamPayments();
        due("the first", x.fund(0, 0, 3) * 10 + x.account(0, 0), 33);
        due("the last", x.fund(5, 0, 4) * 10 + x.account(5, 0), 44);
    }

    /** Promise 2: "currency: 0 to 2" */
    static void fundCurrency() {
        range("currency", INDEX, 0, 2, (x, v) -> x.fund(0, v, 1));
        MillstreamPayments x = new MillstreamPayments();
        due("the first", x.fund(1, 0, 3) * 10 + x.account(1, 0), 33);
        due("the last", x.fund(1, 2, 4) * 10 + x.account(1, 2), 44);
        due("not the one between", x.account(1, 1), 0);
        due("nor those of the banks beside", x.account(0, 2) + x.account(2, 0), 0);
    }

    /** Promise 2: "amount: 1 to 1000000" */
    static void fundAmount() {
        range("amount", ARGUMENT, 1, 1000000, (x, v) -> x.fund(0, 0, v));
        MillstreamPayments x = new MillstreamPayments();
        due("the least", x.fund(0, 0, 1), 1);
        due("the most", x.fund(0, 0, 1000000), 1000001);
        due("one less", x.fund(0, 0, 999999), 2000000);
        due("entries", Checks.book(x, 0), list(-1, 0, 0, 1, -1, -1, 0, 0, 1000000, -1, -1, 0, 0, 999999, -1));
        for (int i = 2; i < 500; i++) {
            due("often the most", x.fund(0, 0, 1000000), 1000000L * (i + 1));
        }
    }

    /** Promise 2: "Returns the account then, when the queues were run." */
    static void fundReturns() {
        for (int amount = 9; amount <= 11; amount++) {
            MillstreamPayments x = new MillstreamPayments();
            real(x, 0, 0, 1, 10);
            due(amount + " for a payment of 10", x.fund(0, 0, amount), amount < 10 ? amount : amount - 10);
        }
        MillstreamPayments ring = new MillstreamPayments();
        real(ring, 0, 0, 1, 10);
        real(ring, 1, 0, 0, 10);
        due("it comes back", ring.fund(0, 0, 10), 10);
        MillstreamPayments below = new MillstreamPayments();
        below.line(0, 0, 5);
        real(below, 0, 0, 1, 5);
        due("to just below 0", below.fund(0, 0, 4), -1);
        due("to 0", below.fund(0, 0, 1), 0);
        due("above 0", below.fund(0, 0, 1), 1);
    }

    /** Promise 2: "Throws IndexOutOfBoundsException if there is no such bank or currency" */
    static void fundThrowsIndex() {
        taken("neither", Bounds::busy, x -> x.fund(5, 2, 1));
        refused("no such bank", INDEX, Bounds::busy, x -> x.fund(6, 2, 1));
        refused("no such currency", INDEX, Bounds::busy, x -> x.fund(5, 3, 1));
        refused("neither of them", INDEX, Bounds::busy, x -> x.fund(-1, -1, 1));
        refused("a bank that would stand for another slot", INDEX, Bounds::busy, x -> x.fund(-1, 3, 1));
    }

    /** Promise 2: "Throws IllegalArgumentException if amount is out of range" */
    static void fundThrowsArgument() {
        refused("0", ARGUMENT, Bounds::busy, x -> x.fund(0, 0, 0));
        taken("1", Bounds::busy, x -> x.fund(0, 0, 1));
        taken("1000000", Bounds::busy, x -> x.fund(0, 0, 1000000));
        refused("1000001", ARGUMENT, Bounds::busy, x -> x.fund(0, 0, 1000001));
    }

    /** Promise 3: "bank: 0 to 5" */
    static void lineBank() {
        range("bank", INDEX, 0, 5, (x, v) -> x.line(v, 0, 1));
        MillstreamPayments x = new MillstreamPayments();
        x.line(0, 0, 3);
        x.line(5, 0, 4);
        due("the first, the last, those beside", list(x.line(0, 0, 0), x.line(5, 0, 0), x.line(1, 0, 0),
                x.line(4, 0, 0)), list(3, 4, 0, 0));
    }

    /** Promise 3: "currency: 0 to 2" */
    static void lineCurrency() {
        range("currency", INDEX, 0, 2, (x, v) -> x.line(0, v, 1));
        MillstreamPayments x = new MillstreamPayments();
        x.line(1, 0, 3);
        x.line(1, 2, 4);
        due("the first, the last, those beside", list(x.line(1, 0, 0), x.line(1, 2, 0), x.line(1, 1, 0),
                x.line(0, 2, 0), x.line(2, 0, 0)), list(3, 4, 0, 0, 0));
    }

    /** Promise 3: "line: 0 to 1000000" */
    static void lineLine() {
        range("line", ARGUMENT, 0, 1000000, (x, v) -> x.line(0, 0, v));
        MillstreamPayments x = new MillstreamPayments();
        real(x, 0, 0, 1, 1000000);
        x.line(0, 0, 999999);
        due("1 less than the most", x.stateOf(0), QUEUED);
        x.line(0, 0, 1000000);
        due("the most", x.stateOf(0), FINAL);
        real(x, 1, 0, 0, 1000000);
        due("back to 0", x.account(0, 0), 0);
        x.line(0, 0, 0);
        due("with none", x.stateOf(real(x, 0, 1, 1, 1)), QUEUED);
        x.line(0, 0, 1);
        due("with the least one", x.stateOf(2), FINAL);
    }

    /** Promise 3: "Returns the line before." */
    static void lineReturns() {
        MillstreamPayments x = new MillstreamPayments();
        due("at first", x.line(0, 0, 1000000), 0);
        due("the most", x.line(0, 0, 1000000), 1000000);
        due("the same again", x.line(0, 0, 0), 1000000);
        due("none", x.line(0, 0, 1), 0);
        refused("one that is refused is none before", ARGUMENT, Bounds::busy, y -> y.line(0, 0, 1000001));
        due("1", x.line(0, 0, 5), 1);
        x.endDay();
        due("over a day", x.line(0, 0, 5), 5);
    }

    /** Promise 3: "Throws IndexOutOfBoundsException if there is no such bank or currency" */
    static void lineThrowsIndex() {
        taken("neither", Bounds::busy, x -> x.line(5, 2, 1));
        refused("no such bank", INDEX, Bounds::busy, x -> x.line(6, 0, 1));
        refused("no such currency", INDEX, Bounds::busy, x -> x.line(4, 3, 1));
        refused("neither of them", INDEX, Bounds::busy, x -> x.line(-1, 3, 1));
    }

    /** Promise 3: "Throws IllegalArgumentException if line is out of range" */
    static void lineThrowsArgument() {
        refused("-1", ARGUMENT, Bounds::busy, x -> x.line(0, 0, -1));
        taken("0", Bounds::busy, x -> x.line(0, 0, 0));
        taken("1000000", Bounds::busy, x -> x.line(0, 0, 1000000));
        refused("1000001", ARGUMENT, Bounds::busy, x -> x.line(0, 0, 1000001));
    }

    /** Promise 4: "bank: 0 to 5" */
    static void limitBank() {
        range("bank", INDEX, 0, 5, (x, v) -> x.limit(v, v == 2 ? 3 : 2, 0, 1));
        MillstreamPayments x = new MillstreamPayments();
        x.limit(0, 2, 0, 3);
        x.limit(5, 2, 0, 4);
        due("the first, the last, those beside", list(x.limit(0, 2, 0, 0), x.limit(5, 2, 0, 0), x.limit(1, 2, 0, 0),
                x.limit(4, 2, 0, 0)), list(3, 4, -1, -1));
    }

    /** Promise 4: "other: 0 to 5: another one" */
    static void limitOther() {
        range("other", INDEX, 0, 5, (x, v) -> x.limit(v == 2 ? 3 : 2, v, 0, 1));
        MillstreamPayments x = new MillstreamPayments();
        x.limit(2, 0, 0, 3);
        x.limit(2, 5, 0, 4);
        due("the first, the last, those beside", list(x.limit(2, 0, 0, 0), x.limit(2, 5, 0, 0), x.limit(2, 1, 0, 0),
                x.limit(2, 4, 0, 0), x.limit(3, 0, 0, 0), x.limit(1, 5, 0, 0)), list(3, 4, -1, -1, -1, -1));
        refused("not another one", ARGUMENT, Bounds::busy, y -> y.limit(2, 2, 0, 1));
        taken("the one before", Bounds::busy, y -> y.limit(2, 1, 0, 1));
        taken("the one behind", Bounds::busy, y -> y.limit(2, 3, 0, 1));
    }

    /** Promise 4: "currency: 0 to 2" */
    static void limitCurrency() {
        range("currency", INDEX, 0, 2, (x, v) -> x.limit(0, 1, v, 1));
        MillstreamPayments x = new MillstreamPayments();
        x.limit(2, 3, 0, 3);
        x.limit(2, 3, 2, 4);
        due("the first, the last, those beside", list(x.limit(2, 3, 0, 0), x.limit(2, 3, 2, 0), x.limit(2, 3, 1, 0),
                x.limit(2, 1, 2, 0), x.limit(2, 4, 0, 0)), list(3, 4, -1, -1, -1));
    }

    /** Promise 4: "limit: 0 to 1000000, or NONE for no limit" */
    static void limitLimit() {
        range("limit", ARGUMENT, NONE, 1000000, (x, v) -> x.limit(0, 1, 0, v));
        due("none, 1000000", limited(NONE, 1000000), FINAL);
        due("0, 1", limited(0, 1), QUEUED);
        due("1, 1", limited(1, 1), FINAL);
        due("1, 2", limited(1, 2), QUEUED);
        due("999999, 999999", limited(999999, 999999), FINAL);
        due("999999, 1000000", limited(999999, 1000000), QUEUED);
        due("1000000, 1000000", limited(1000000, 1000000), FINAL);
    }

    private static int limited(int limit, int amount) {
        MillstreamPayments x = new MillstreamPayments();
        x.fund(0, 0, 1000000);
        x.limit(0, 1, 0, limit);
        return x.stateOf(real(x, 0, 0, 1, amount));
    }

    /** Promise 4: "Returns the limit before; NONE if there was none." */
    static void limitReturns() {
        MillstreamPayments x = new MillstreamPayments();
        due("none", x.limit(0, 1, 0, NONE), NONE);
        due("none again", x.limit(0, 1, 0, 0), NONE);
        due("0 is one", x.limit(0, 1, 0, 1000000), 0);
        due("the most", x.limit(0, 1, 0, 1), 1000000);
        due("1", x.limit(0, 1, 0, NONE), 1);
        due("taken away", x.limit(0, 1, 0, 7), NONE);
        x.endDay();
        due("over a day", x.limit(0, 1, 0, 7), 7);
    }

    /** Promise 4: "Throws IndexOutOfBoundsException if there is no such bank, of either, or currency" */
    static void limitThrowsIndex() {
        taken("the last ones", Bounds::busy, x -> x.limit(5, 4, 2, 1));
        refused("no such bank", INDEX, Bounds::busy, x -> x.limit(6, 4, 2, 1));
        refused("no such other one", INDEX, Bounds::busy, x -> x.limit(4, 6, 2, 1));
        refused("no such currency", INDEX, Bounds::busy, x -> x.limit(5, 4, 3, 1));
        refused("neither of the banks", INDEX, Bounds::busy, x -> x.limit(-1, -1, 0, 1));
    }

    /** Promise 4: "Throws IllegalArgumentException if both are the same, or limit is out of range" */
    static void limitThrowsArgument() {
        refused("both 0", ARGUMENT, Bounds::busy, x -> x.limit(0, 0, 0, 1));
        refused("both 5", ARGUMENT, Bounds::busy, x -> x.limit(5, 5, 0, 1));
        refused("both the same, with none", ARGUMENT, Bounds::busy, x -> x.limit(5, 5, 0, NONE));
        taken("5 and 4", Bounds::busy, x -> x.limit(5, 4, 0, 1));
        refused("-2", ARGUMENT, Bounds::busy, x -> x.limit(0, 1, 0, -2));
        taken("-1", Bounds::busy, x -> x.limit(0, 1, 0, -1));
        taken("0", Bounds::busy, x -> x.limit(0, 1, 0, 0));
        taken("1000000", Bounds::busy, x -> x.limit(0, 1, 0, 1000000));
        refused("1000001", ARGUMENT, Bounds::busy, x -> x.limit(0, 1, 0, 1000001));
    }

    /** Promise 5: "bank: 0 to 5" */
    static void outBank() {
        range("bank", INDEX, 0, 5, (x, v) -> x.out(v, true));
        MillstreamPayments x = new MillstreamPayments();
        x.out(0, true);
        x.out(5, true);
        for (int bank = 0; bank < 6; bank++) {
            due("the first and the last one, " + bank, x.out(bank, false), bank == 0 || bank == 5);
        }
    }

    /** Promise 5: "is: whether it is out from now on" */
    static void outIs() {
        MillstreamPayments x = new MillstreamPayments();
        due("ahead", x.stateOf(real(x, 0, 0, 1, 1)), QUEUED);
        x.out(0, true);
        x.fund(0, 0, 1);
        due("out", x.stateOf(0), QUEUED);
        x.endDay();
        due("over a day", x.stateOf(0), QUEUED);
        x.out(0, false);
        due("back", x.stateOf(0), FINAL);
        due("it sends again", real(x, 0, 1, 1, 1), 1);
    }

    /** Promise 5: "Returns whether it was." */
    static void outReturns() {
        MillstreamPayments x = new MillstreamPayments();
        due("at first", x.out(3, false), false);
        due("still", x.out(3, true), false);
        due("then", x.out(3, true), true);
        due("still", x.out(3, false), true);
        due("back", x.out(3, false), false);
    }

    /** Promise 5: "Throws IndexOutOfBoundsException if there is no such bank" */
    static void outThrowsIndex() {
        refused("-1", INDEX, Bounds::busy, x -> x.out(-1, false));
        taken("0", Bounds::busy, x -> x.out(0, false));
        taken("5", Bounds::busy, x -> x.out(5, false));
        refused("6, the switch", INDEX, Bounds::busy, x -> x.out(6, true));
    }

    /** Promise 6: "currency: 0 to 2" */
    static void holidayCurrency() {
        range("currency", INDEX, 0, 2, (x, v) -> x.holiday(v, 1, true));
        for (int place : new int[] {0, 2}) {
            MillstreamPayments x = new MillstreamPayments();
            x.holiday(place, 0, true);
            for (int currency = 0; currency < 3; currency++) {
                due("place " + currency + " when " + place + " has one",
                        x.stateOf(paying(x, 0, currency, 1, currency, 1)), currency == place ? WAITING : QUEUED);
            }
        }
    }

    /** Promise 6: "day: 0 to 999" */
    static void holidayDay() {
        range("day", ARGUMENT, 0, 999, (x, v) -> x.holiday(0, v, true));
        MillstreamPayments x = new MillstreamPayments();
        due("the first", x.holiday(0, 0, true), false);
        due("the one behind", x.holiday(0, 1, false), true);
        due("the last one but one", x.holiday(0, 998, true), false);
        due("taken away", x.holiday(0, 998, false), true);
        due("the last", x.holiday(0, 999, true), false);
        due("a day modulo 7 of 5", x.holiday(0, 999, false), false);
        due("today is the first", x.stateOf(real(x, 0, 0, 1, 1)), WAITING);
        MillstreamPayments gone = new MillstreamPayments();
        endDays(gone, 3);
        due("a day that has gone by", gone.holiday(0, 2, true), false);
        due("today is open", gone.stateOf(real(gone, 0, 0, 1, 1)), QUEUED);
        due("today", gone.holiday(0, 3, true), false);
        due("then it is not", gone.stateOf(real(gone, 0, 1, 1, 1)), WAITING);
    }

    /** Promise 6: "is: whether it is one" */
    static void holidayIs() {
        for (int day = 1; day <= 3; day++) {
            MillstreamPayments x = new MillstreamPayments();
            x.fund(0, 1, 1);
            x.send(0, 0, 1, 1, 1, 1, 0, true, 2, true);
            x.holiday(1, day, true);
            endDays(x, 2);
            due("one on the day " + day + " for a payment on the day 2", x.stateOf(0), day == 2 ? WAITING : FINAL);
            MillstreamPayments y = new MillstreamPayments();
            y.fund(0, 1, 1);
            y.send(0, 0, 1, 1, 1, 1, 0, true, 2, true);
            y.holiday(1, day, true);
            y.holiday(1, day, false);
            endDays(y, 2);
            due("none on the day " + day + " any more", y.stateOf(0), FINAL);
        }
    }

    /** Promise 6: "Returns whether the place is open on that day then." */
    static void holidayReturns() {
        for (int day = 3; day <= 8; day++) {
            MillstreamPayments x = new MillstreamPayments();
            boolean isWeekday = day < 5 || day > 6;
            due("none on the day " + day, x.holiday(1, day, false), isWeekday);
            due("one on the day " + day, x.holiday(1, day, true), false);
            due("again", x.holiday(1, day, true), false);
            due("none again", x.holiday(1, day, false), isWeekday);
        }
    }

    /** Promise 6: "Throws IndexOutOfBoundsException if there is no such currency" */
    static void holidayThrowsIndex() {
        refused("-1", INDEX, Bounds::busy, x -> x.holiday(-1, 1, true));
        taken("0", Bounds::busy, x -> x.holiday(0, 1, true));
        taken("2", Bounds::busy, x -> x.holiday(2, 1, true));
        refused("3", INDEX, Bounds::busy, x -> x.holiday(3, 1, true));
    }

    /** Promise 6: "Throws IllegalArgumentException if day is out of range" */
    static void holidayThrowsArgument() {
        refused("-1", ARGUMENT, Bounds::busy, x -> x.holiday(1, -1, true));
        taken("0", Bounds::busy, x -> x.holiday(1, 0, true));
        taken("999", Bounds::busy, x -> x.holiday(1, 999, true));
        refused("1000", ARGUMENT, Bounds::busy, x -> x.holiday(0, 1000, true));
        refused("1001, the next one's today", ARGUMENT, Bounds::busy, x -> x.holiday(0, 1001, true));
        refused("-999, the one before's today", ARGUMENT, Bounds::busy, x -> x.holiday(1, -999, true));
    }

    /** Promise 7: "name: 0 to 19" */
    static void listName() {
        range("name", INDEX, 0, 19, (x, v) -> x.list(v, true));
        for (int listed : new int[] {0, 1, 18, 19}) {
            MillstreamPayments x = new MillstreamPayments();
            x.list(listed, true);
            for (int name = 0; name < 20; name++) {
                due("name " + name + " when " + listed + " is listed",
                        x.stateOf(x.send(0, name, 1, 0, 1, name, 0, true, 0, true)), name == listed ? HELD : QUEUED);
            }
        }
    }

    /** Promise 7: "is: whether it is listed from now on" */
    static void listIs() {
        MillstreamPayments x = new MillstreamPayments();
        x.send(0, 0, 1, 0, 1, 4, 0, true, 0, true);
        x.list(4, false);
        due("not listed", x.stateOf(0), QUEUED);
        x.list(4, true);
        due("listed", x.stateOf(0), HELD);
        due("what comes then", x.stateOf(x.send(0, 1, 1, 0, 1, 4, 0, true, 0, true)), HELD);
        x.endDay();
        due("over a day", x.stateOf(x.send(0, 2, 1, 0, 1, 4, 0, true, 0, true)), HELD);
        x.list(4, false);
        due("what comes when it is off", x.stateOf(x.send(0, 3, 1, 0, 1, 4, 0, true, 0, true)), QUEUED);
    }

    /** Promise 7: "Lists a name, or takes it off; what is HELD stays so." */
    static void listOff() {
        MillstreamPayments x = new MillstreamPayments();
        x.list(4, true);
        x.send(0, 0, 1, 0, 1, 4, 0, true, 0, true);
        due("off", x.list(4, false), 0);
        due("HELD", x.stateOf(0), HELD);
        x.fund(0, 0, 1);
        x.endDay();
        due("on the next day, too", x.stateOf(0), HELD);
        due("one officer", x.release(0, 0), false);
        due("two officers", x.release(0, 1), true);
        due("are still needed", x.stateOf(0), FINAL);
    }

    /** Promise 7: "Returns how many payments are HELD by that." */
    static void listReturns() {
        for (int many : new int[] {0, 1, 2, 59, 60}) {
            MillstreamPayments x = new MillstreamPayments();
            for (int i = 0; i < 60; i++) {
                x.send(0, i, 1, i % 3, 1, i < many ? 4 : 5, 0, i % 2 == 0, 0, true);
            }
            due("of " + many, x.list(4, true), many);
            due("those that are HELD already are none", x.list(4, true), 0);
            due("off it holds none", x.list(5, false), 0);
            due("the others", x.list(5, true), 60 - many);
        }
    }

    /** Promise 7: "Throws IndexOutOfBoundsException if there is no such name" */
    static void listThrowsIndex() {
        refused("-1", INDEX, Bounds::busy, x -> x.list(-1, true));
        taken("0", Bounds::busy, x -> x.list(0, true));
        taken("19", Bounds::busy, x -> x.list(19, true));
        refused("20", INDEX, Bounds::busy, x -> x.list(20, true));
        refused("20, off", INDEX, Bounds::busy, x -> x.list(20, false));
    }
}
