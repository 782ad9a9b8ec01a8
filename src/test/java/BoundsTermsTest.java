import java.util.List;

/** The boundary cases that the document's terms name, up to its payments. Each test names its sentence. */
public final class BoundsTermsTest extends Bounds {
    public static void main(String[] args) throws ReflectiveOperationException {
        runAll(BoundsTermsTest.class);
    }

    /** What it is: "An object is used for at most 512 calls after it has been made" */
    static void lastCallsAnswer() {
        int[] accounts = {-2, 0, 0, 0};
        for (int day = 1; day < 490; day++) {
            accounts[0] -= (99 - accounts[0]) / 100;
        }
        int before = accounts[0] - (99 - accounts[0]) / 100;
        due("the call 512", callsUpTo(511).account(5, 2), accounts[0]);
        due("the call 512, from the book", callsUpTo(511).accountAnew(5, 2), accounts[0]);
        due("the call 512, of the book", callsUpTo(511).entries(), 18 + 18 + 489 * 18);
        due("the call 512, of its last entry", callsUpTo(511).entryAt(18 + 18 + 489 * 18 - 1, 0), 5);
        due("the call 511 and 512, that ends a day", callsUpTo(510).endDay() + callsUpTo(511).endDay(), 0);
        MillstreamPayments beyond = callsUpTo(512);
        due("what a call beyond answers is free, and throws nothing", beyond.account(5, 2) == before, true);
    }

    /** All accounts of all banks below 0, and an entry a day for each. */
    private static MillstreamPayments callsUpTo(int calls) {
        MillstreamPayments x = new MillstreamPayments();
        for (int currency = 0; currency < 3; currency++) {
            for (int bank = 0; bank < 6; bank++) {
                paying(x, bank, currency, (bank + 1) % 6, currency, 1);
            }
        }
        for (int currency = 0; currency < 3; currency++) {
            x.offset(currency);
        }
        endDays(x, calls - 21);
        return x;
    }

    /** Payments: "A payment is WAITING, HELD, QUEUED, NETTED, FINAL or RETURNED." */
    static void allStates() {
        due("states", Checks.states(busy()), list(FINAL, FINAL, FINAL, HELD, HELD, WAITING, QUEUED, QUEUED, QUEUED,
                QUEUED, NETTED, RETURNED, FINAL));
        due("today", busy().today(), 1);
    }

    /** Terms: "There are the banks 0 to 5, and the switch as a bank 6, and the currencies 0 to 2." */
    static void banksAndCurrencies() {
        MillstreamPayments x = new MillstreamPayments();
        for (int bank = 0; bank < 6; bank++) {
            for (int currency = 0; currency < 3; currency++) {
                due("bank " + bank + " and currency " + currency, x.fund(bank, currency, 10 * bank + currency + 1),
                        10 * bank + currency + 1);
            }
        }
        for (int currency = 0; currency < 3; currency++) {
            due("the switch as a bank 6", x.account(6, currency), 0);
        }
        for (int bank : new int[] {-1, 6, 7}) {
            refused("fund of the bank " + bank, INDEX, Bounds::busy, y -> y.fund(bank, 0, 1));
        }
        for (int bank : new int[] {-1, 7}) {
            refused("account of the bank " + bank, INDEX, Bounds::busy, y -> y.account(bank, 0));
        }
        for (int currency : new int[] {-1, 3}) {
            refused("fund of the currency " + currency, INDEX, Bounds::busy, y -> y.fund(0, currency, 1));
            refused("account of the currency " + currency, INDEX, Bounds::busy, y -> y.account(6, currency));
        }
    }

    /** Terms: "Each bank has an account in each currency, at first 0" */
    static void accountsAreApart() {
        for (int slot = 0; slot < 18; slot++) {
            MillstreamPayments x = new MillstreamPayments();
            x.fund(slot / 3, slot % 3, 7);
            for (int other = 0; other < 21; other++) {
                due("account " + other + " when " + slot + " has money", x.account(other / 3, other % 3),
                        other == slot ? 7 : 0);
            }
        }
        MillstreamPayments x = new MillstreamPayments();
        due("an account of 0 pays nothing, not even 1", x.stateOf(real(x, 0, 0, 1, 1)), QUEUED);
        x.fund(0, 0, 1);
        due("an account of 1 pays 1", x.stateOf(0), FINAL);
        due("and is at 0", x.account(0, 0), 0);
    }

    /** Terms: "its line, at first 0, is how far below 0 the account may be" */
    static void lineIsHowFarBelow() {
        for (int line : new int[] {0, 1, 2, 100, 999999, 1000000}) {
            due("up to one less than the line " + line, line < 2 || statesBy(line, line - 1).equals(list(FINAL)), true);
            due("up to the line " + line, line < 1 || statesBy(line, line).equals(list(FINAL)), true);
            due("one beyond the line " + line,
                    line == 1000000 || statesBy(line, line + 1).equals(list(QUEUED)), true);
            due("the line " + line + ", and 1 more", line < 1
                    || statesBy(line, line, 1).equals(list(FINAL, QUEUED)), true);
        }
        MillstreamPayments x = new MillstreamPayments();
        x.fund(0, 0, 10);
        x.line(0, 0, 5);
        due("from above 0, one beyond", x.stateOf(real(x, 0, 0, 1, 16)), QUEUED);
        x.withdraw(0);
        due("from above 0, to the line", x.stateOf(real(x, 0, 1, 1, 15)), FINAL);
        due("it is as far below", x.account(0, 0), -5);
        due("the line of another bank is apart", x.stateOf(real(x, 1, 1, 2, 16)), QUEUED);
        due("the line of another currency, too", x.stateOf(paying(x, 0, 2, 1, 1, 1)), QUEUED);
    }

    private static List<Long> statesBy(int line, int... amounts) {
        MillstreamPayments x = new MillstreamPayments();
        x.line(0, 0, line);
        for (int i = 0; i < amounts.length; i++) {
            real(x, 0, i, 1, amounts[i]);
        }
        return Checks.states(x);
    }

    /** Terms: "(The switch has neither a line nor a limit.)" */
    static void switchHasNoLineNorLimit() {
        taken("the line of the bank 5", Bounds::busy, x -> x.line(5, 0, 1));
        refused("the line of the switch", INDEX, Bounds::busy, x -> x.line(6, 0, 1));
        taken("a limit of the bank 5", Bounds::busy, x -> x.limit(5, 0, 0, 1));
        refused("a limit of the switch", INDEX, Bounds::busy, x -> x.limit(6, 0, 0, 1));
        taken("a limit for the bank 5", Bounds::busy, x -> x.limit(0, 5, 0, 1));
        refused("a limit for the switch", INDEX, Bounds::busy, x -> x.limit(0, 6, 0, 1));
        MillstreamPayments x = new MillstreamPayments();
        x.limit(5, 0, 0, 0);
        x.limit(5, 4, 0, 0);
        x.fund(5, 0, 5);
        real(x, 5, 0, 1, 5);
        x.endDay();
        due("fees go to the switch whatever limits there are", x.account(6, 0), 2);
    }

    /** Terms: "what it paid to it on the day, by payments that became FINAL, less what that paid to it so, may not be more than that" */
    static void limitIsNotPassed() {
        for (int limit : new int[] {0, 1, 2, 100, 999999, 1000000}) {
            due("one less than " + limit, limit < 2 || limited(limit, limit - 1).equals(list(FINAL)), true);
            due("just " + limit, limit < 1 || limited(limit, limit).equals(list(FINAL)), true);
            due("one more than " + limit, limit == 1000000 || limited(limit, limit + 1).equals(list(QUEUED)), true);
            due("just " + limit + ", and 1", limit < 1 || limited(limit, limit, 1).equals(list(FINAL, QUEUED)), true);
        }
        due("without a limit", limited(NONE, 1000000, 1000000), list(FINAL, FINAL));
        MillstreamPayments x = limitedTo(10);
        real(x, 0, 0, 1, 10);
        real(x, 1, 0, 0, 4);
        due("less what that paid: one more than that is too much", x.stateOf(real(x, 0, 1, 1, 5)), QUEUED);
        x.withdraw(2);
        due("less what that paid: just that is not", x.stateOf(real(x, 0, 2, 1, 4)), FINAL);
        MillstreamPayments y = limitedTo(10);
        y.list(5, true);
        y.send(0, 0, 1, 0, 10, 5, 0, true, 0, true);
        y.send(0, 1, 1, 0, 10, 1, 0, false, 0, true);
        due("what is not FINAL does not count", y.stateOf(real(y, 0, 2, 1, 10)), FINAL);
        due("for another bank there is none", y.stateOf(real(y, 0, 3, 2, 11)), FINAL);
        due("the other way there is none", y.stateOf(real(y, 1, 0, 0, 15)), FINAL);
        MillstreamPayments z = limitedTo(10);
        real(z, 0, 0, 1, 10);
        real(z, 0, 1, 1, 10);
        due("on the day itself", z.stateOf(1), QUEUED);
        z.endDay();
        due("on the next day", z.stateOf(1), FINAL);
        due("again just so much", z.stateOf(real(z, 0, 2, 1, 1)), QUEUED);
    }

    private static MillstreamPayments limitedTo(int limit) {
        MillstreamPayments x = new MillstreamPayments();
        for (int i = 0; i < 3; i++) {
            x.fund(0, 0, 1000000);
        }
        x.fund(1, 0, 1000000);
        x.limit(0, 1, 0, limit);
        return x;
    }

    private static List<Long> limited(int limit, int... amounts) {
        MillstreamPayments x = limitedTo(limit);
        for (int i = 0; i < amounts.length; i++) {
            real(x, 0, i, 1, amounts[i]);
        }
        return Checks.states(x);
    }

    /** Terms: "Days are counted from 0." */
    static void daysFrom0() {
        MillstreamPayments x = new MillstreamPayments();
        due("the first day", x.today(), 0);
        due("a payment for it enters", x.stateOf(real(x, 0, 0, 1, 1)), QUEUED);
        due("one for the next day does not", x.stateOf(x.send(0, 1, 1, 0, 1, 1, 0, true, 1, true)), WAITING);
        refused("a day ahead of it", ARGUMENT, Bounds::busy, y -> y.send(0, 50, 1, 0, 1, 1, 0, true, -1, true));
        x.endDay();
        due("the second day", x.today(), 1);
        due("then that enters, too", x.stateOf(1), QUEUED);
    }

    /** Terms: "The place of a currency is open on a day, unless the day modulo 7 is 5 or 6, or it has a holiday then." */
    static void placesAreOpen() {
        for (int currency = 0; currency < 3; currency++) {
            MillstreamPayments x = new MillstreamPayments();
            for (int day : new int[] {0, 1, 4, 5, 6, 7, 8, 11, 12, 13, 14, 990, 991, 992, 993, 994, 998, 999}) {
                due("currency " + currency + " day " + day, x.holiday(currency, day, false),
                        day % 7 != 5 && day % 7 != 6);
            }
            MillstreamPayments y = new MillstreamPayments();
            y.fund(0, currency, 100);
            y.holiday(currency, 9, true);
            y.holiday((currency + 1) % 3, 8, true);
            for (int day = 0; day < 16; day++) {
                boolean isOpen = day % 7 != 5 && day % 7 != 6 && day != 9;
                due("a payment on the day " + day, y.stateOf(paying(y, 0, day, 1, currency, 1)),
                        isOpen ? FINAL : WAITING);
                y.endDay();
            }
        }
        MillstreamPayments z = new MillstreamPayments();
        z.holiday(0, 999, true);
        z.holiday(2, 0, true);
        due("the last day of a place is not the first one of the next", z.stateOf(paying(z, 0, 0, 1, 1, 1)), QUEUED);
        due("nor its first one the last one of the one before", z.holiday(1, 998, false), true);
    }

    /** Payments: "Payments are numbered from 0, at most 60." */
    static void atMost60() {
        MillstreamPayments x = new MillstreamPayments();
        refused("there is no payment yet", INDEX, MillstreamPayments::new, y -> y.stateOf(0));
        for (int i = 0; i < 60; i++) {
            due("the number of the next one", real(x, i / 10, i % 10, (i / 10 + 1) % 6, 1), i);
            due("there are so many", x.payments(), i + 1);
        }
        due("the last one", x.stateOf(59), QUEUED);
        taken("the payment 60 of 60", () -> withPayments(59), y -> real(y, 5, 9, 0, 1));
        refused("the payment 61", STATE, () -> withPayments(60), y -> real(y, 0, 10, 1, 1));
        refused("the payment 61 of another bank", STATE, () -> withPayments(60), y -> real(y, 5, 99, 1, 1));
        taken("the last one of 60", () -> withPayments(60), y -> y.stateOf(59));
        refused("one beyond", INDEX, () -> withPayments(60), y -> y.stateOf(60));
    }

    /** Payments: "for a payee, a name, 0 to 19" */
    static void payees() {
        range("payee", INDEX, 0, 19, (x, v) -> x.send(0, 50, 1, 0, 1, v, 0, true, 1, true));
        for (int name : new int[] {0, 19}) {
            MillstreamPayments x = new MillstreamPayments();
            x.list(name, true);
            for (int payee = 0; payee < 20; payee++) {
                due("payee " + payee, x.stateOf(x.send(0, payee, 1, 0, 1, payee, 0, true, 0, true)),
                        payee == name ? HELD : QUEUED);
            }
        }
    }

    /** Payments: "with a rank, 0 to 2" */
    static void ranks() {
        range("rank", ARGUMENT, 0, 2, (x, v) -> x.send(0, 50, 1, 0, 1, 1, v, true, 1, true));
        MillstreamPayments x = new MillstreamPayments();
        for (int rank = 0; rank < 3; rank++) {
            x.send(0, rank, 1, 0, 1, 1, rank, true, 0, true);
        }
        due("by ranks", Checks.queue(x, 0, 0), list(2, 1, 0));
    }

    /** Payments: "and it may stay over, or not" */
    static void stays() {
        MillstreamPayments x = new MillstreamPayments();
        x.send(0, 0, 1, 0, 1, 1, 0, true, 0, true);
        x.send(0, 1, 1, 0, 1, 1, 0, true, 0, false);
        due("on the day itself", Checks.states(x), list(QUEUED, QUEUED));
        x.endDay();
        due("on the next day", Checks.states(x), list(QUEUED, RETURNED));
    }

    /** Payments: "A bank tells it by a message with a number, 0 to 99." */
    static void messages() {
        range("message", INDEX, 0, 99, MillstreamPayments::new, (x, v) -> x.send(2, v, 1, 0, 1, 1, 0, true, 1, true));
        MillstreamPayments x = new MillstreamPayments();
        due("the first number", real(x, 0, 0, 1, 1), 0);
        due("the last number", real(x, 0, 99, 1, 1), 1);
        due("the first number of the next bank is another one", real(x, 1, 0, 0, 1), 2);
        due("the last number of the last bank", real(x, 5, 99, 0, 1), 3);
        due("doubles of all", real(x, 0, 0, 1, 1) + 10 * real(x, 0, 99, 1, 1) + 100 * real(x, 1, 0, 0, 1)
                + 1000 * real(x, 5, 99, 0, 1), 3210);
        due("so many", x.doubles(), 4);
    }

    /** Payments: "A message that a bank has sent already, all alike, is a double: it makes no payment, and tells the number of the one that there is; one that is not alike is refused." */
    static void doubles() {
        Made made = () -> {
            MillstreamPayments x = new MillstreamPayments();
            x.endDay();
            x.endDay();
            x.send(2, 50, 3, 1, 500, 10, 1, true, 2, true);
            return x;
        };
        MillstreamPayments x = made.anew();
        due("all alike", x.send(2, 50, 3, 1, 500, 10, 1, true, 2, true), 0);
        due("it makes none", x.payments(), 1);
        due("it is counted", x.doubles(), 1);
        for (int by : new int[] {-1, 1}) {
            refused("another bank", STATE, made, y -> y.send(2, 50, 3 + by * 2, 1, 500, 10, 1, true, 2, true));
            refused("another currency", STATE, made, y -> y.send(2, 50, 3, 1 + by, 500, 10, 1, true, 2, true));
            refused("another amount", STATE, made, y -> y.send(2, 50, 3, 1, 500 + by, 10, 1, true, 2, true));
            refused("another payee", STATE, made, y -> y.send(2, 50, 3, 1, 500, 10 + by, 1, true, 2, true));
            refused("another rank", STATE, made, y -> y.send(2, 50, 3, 1, 500, 10, 1 + by, true, 2, true));
            refused("another day", STATE, made, y -> y.send(2, 50, 3, 1, 500, 10, 1, true, 2 + by, true));
            due("another number", made.anew().send(2, 50 + by, 3, 1, 500, 10, 1, true, 2, true), 1);
            due("from another bank", made.anew().send(2 + by * 2, 50, 3, 1, 500, 10, 1, true, 2, true), 1);
        }
        refused("for the net", STATE, made, y -> y.send(2, 50, 3, 1, 500, 10, 1, false, 2, true));
        refused("may not stay over", STATE, made, y -> y.send(2, 50, 3, 1, 500, 10, 1, true, 2, false));
        MillstreamPayments z = made.anew();
        z.endDay();
        due("a day later", z.send(2, 50, 3, 1, 500, 10, 1, true, 2, true), 0);
    }

    /** Payments: "When it comes, it is WAITING, if its day is later, or the place is not open today; otherwise it enters." */
    static void comesWaiting() {
        MillstreamPayments x = new MillstreamPayments();
        x.holiday(1, 3, true);
        endDays(x, 3);
        due("the day before", x.stateOf(x.send(0, 0, 1, 0, 1, 1, 0, true, 2, true)), QUEUED);
        due("today", x.stateOf(x.send(0, 1, 1, 0, 1, 1, 0, true, 3, true)), QUEUED);
        due("the day after", x.stateOf(x.send(0, 2, 1, 0, 1, 1, 0, true, 4, true)), WAITING);
        due("the first day", x.stateOf(x.send(0, 3, 1, 0, 1, 1, 0, true, 0, true)), QUEUED);
        due("the last day", x.stateOf(x.send(0, 4, 1, 0, 1, 1, 0, true, 999, true)), WAITING);
        due("not open, the day before", x.stateOf(x.send(0, 5, 1, 1, 1, 1, 0, true, 2, true)), WAITING);
        due("not open, today", x.stateOf(x.send(0, 6, 1, 1, 1, 1, 0, false, 3, true)), WAITING);
        due("not open, the day after", x.stateOf(x.send(0, 7, 1, 1, 1, 1, 0, true, 4, true)), WAITING);
        x.endDay();
        due("on the day after all but the last one enter", Checks.states(x),
                list(QUEUED, QUEUED, QUEUED, QUEUED, WAITING, QUEUED, NETTED, QUEUED));
    }

    /** Payments: "To enter, it is HELD, if its payee is listed, and it was not released; otherwise QUEUED, if it is real, or NETTED." */
    static void enters() {
        MillstreamPayments x = new MillstreamPayments();
        x.list(10, true);
        for (int payee = 9; payee <= 11; payee++) {
            due("real, for " + payee, x.stateOf(x.send(0, payee, 1, 0, 1, payee, 0, true, 0, true)),
                    payee == 10 ? HELD : QUEUED);
            due("for the net, for " + payee, x.stateOf(x.send(1, payee, 2, 0, 1, payee, 0, false, 0, true)),
                    payee == 10 ? HELD : NETTED);
        }
        for (int payment = 2; payment <= 3; payment++) {
            x.release(payment, 0);
            due("released by one", x.stateOf(payment), HELD);
            x.release(payment, 1);
        }
        due("released by two, though listed", Checks.states(x), list(QUEUED, NETTED, QUEUED, NETTED, QUEUED, NETTED));
        x.list(10, false);
        due("not listed any more", x.stateOf(x.send(0, 20, 1, 0, 1, 10, 0, true, 0, true)), QUEUED);
    }

    /** Payments: "If a name is listed, all QUEUED and NETTED payments for it that were not released are HELD." */
    static void listedAreHeld() {
        MillstreamPayments x = new MillstreamPayments();
        x.fund(5, 0, 1);
        for (int payee = 9; payee <= 11; payee++) {
            x.send(0, payee, 1, 0, 1, payee, 0, true, 0, true);
            x.send(0, payee + 20, 1, 0, 1, payee, 0, false, 0, true);
        }
        x.send(0, 50, 1, 0, 1, 10, 0, true, 1, true);
        x.send(5, 51, 1, 0, 1, 10, 0, true, 0, true);
        x.send(0, 52, 1, 0, 1, 10, 0, true, 0, true);
        x.withdraw(8);
        due("two of them", x.list(10, true), 2);
        due("neither the names beside, nor WAITING, FINAL and RETURNED ones", Checks.states(x),
                list(QUEUED, NETTED, HELD, HELD, QUEUED, NETTED, WAITING, FINAL, RETURNED));
        x.release(2, 0);
        x.release(2, 1);
        x.release(3, 2);
        x.list(10, false);
        due("none that was released, none that is HELD", x.list(10, true), 0);
        due("states", Checks.states(x),
                list(QUEUED, NETTED, QUEUED, HELD, QUEUED, NETTED, WAITING, FINAL, RETURNED));
        x.release(3, 3);
        due("the NETTED one neither", x.list(10, true), 0);
    }

    private static MillstreamPayments held() {
        MillstreamPayments x = new MillstreamPayments();
        x.list(7, true);
        x.send(0, 0, 1, 0, 5, 7, 0, true, 0, true);
        x.send(0, 1, 1, 0, 5, 7, 0, false, 0, true);
        return x;
    }

    private static MillstreamPayments releasedBy(int officer) {
        MillstreamPayments x = held();
        x.release(0, officer);
        return x;
    }

    /** Payments: "A HELD payment is released by two officers, 0 to 3, one after the other: the second one, who has to be another one, lets it enter." */
    static void twoOfficers() {
        for (int officer = -1; officer <= 4; officer++) {
            for (int second = -1; second <= 4; second++) {
                int one = officer;
                int two = second;
                if (one < 0 || one > 3) {
                    refused("officer " + one, INDEX, Bounds::busy, x -> x.release(4, one));
                } else if (two < 0 || two > 3) {
                    refused("officer " + two + " after " + one, INDEX, () -> releasedBy(one), x -> x.release(0, two));
                } else if (one == two) {
                    refused("officer " + one + " twice", STATE, () -> releasedBy(one), x -> x.release(0, two));
                } else {
                    MillstreamPayments x = releasedBy(one);
                    due("after one", Checks.states(x), list(HELD, HELD));
                    due("the second one lets it enter", x.release(0, two), true);
                    due("after two", Checks.states(x), list(QUEUED, HELD));
                }
            }
        }
        refused("a third one", STATE, () -> {
            MillstreamPayments x = releasedBy(0);
            x.release(0, 1);
            return x;
        }, x -> x.release(0, 2));
        MillstreamPayments x = releasedBy(0);
        due("the officers of one are not those of another", x.release(1, 0), false);
    }

    /** Payments: "One officer alone can refuse it: it is RETURNED." */
    static void oneRefuses() {
        MillstreamPayments none = held();
        due("ahead of a release", none.refuse(0), 1);
        MillstreamPayments one = releasedBy(2);
        due("after one release", one.refuse(0), 1);
        due("it is RETURNED, it alone", concat(Checks.states(none), Checks.states(one)),
                list(RETURNED, HELD, RETURNED, HELD));
        Made two = () -> {
            MillstreamPayments x = releasedBy(2);
            x.release(0, 3);
            return x;
        };
        refused("after two it is not HELD", STATE, two, x -> x.refuse(0));
        refused("it is RETURNED once", STATE, () -> {
            MillstreamPayments x = held();
            x.refuse(0);
            return x;
        }, x -> x.refuse(0));
    }

    /** Payments: "A bank can withdraw what is not FINAL or RETURNED: it is RETURNED, too." */
    static void withdraws() {
        for (int payment = 0; payment < 13; payment++) {
            int number = payment;
            int state = busy().stateOf(payment);
            if (state == FINAL || state == RETURNED) {
                refused("withdraw of " + state, STATE, Bounds::busy, x -> x.withdraw(number));
            } else {
                MillstreamPayments x = busy();
                due("withdraw of " + state, x.withdraw(number), number == 8 || number == 9 ? 2 : 1);
                due("it is RETURNED", x.stateOf(number), RETURNED);
            }
        }
    }

    /** 0 and 1 as legs would be; 2 to 9 are each off by one thing from the payment 1. */
    private static MillstreamPayments toJoin() {
        MillstreamPayments x = new MillstreamPayments();
        x.list(7, true);
        paying(x, 0, 0, 1, 0, 10);
        paying(x, 1, 0, 0, 1, 10);
        paying(x, 1, 1, 0, 0, 10);
        paying(x, 0, 1, 1, 1, 10);
        paying(x, 2, 0, 0, 1, 10);
        paying(x, 1, 2, 2, 1, 10);
        x.send(1, 3, 0, 1, 10, 1, 0, false, 0, true);
        paying(x, 1, 4, 0, 2, 10);
        x.withdraw(7);
        x.fund(1, 2, 9);
        paying(x, 1, 5, 0, 2, 9);
        paying(x, 1, 6, 0, 1, 8);
        paying(x, 0, 7, 1, 2, 10);
        x.join(9, 10);
        x.send(1, 8, 0, 2, 1, 7, 0, true, 0, true);
        x.send(1, 9, 0, 2, 1, 1, 0, true, 1, true);
        return x;
    }

    /** Payments: "Two payments that are not FINAL or RETURNED can be joined as legs, if they are real, of two currencies, between the same two banks, the one from the one to the other, the other one back, and neither is joined." */
    static void joins() {
        String[] why = {"itself", "", "of one currency", "the same way", "from a third bank", "to a third bank",
            "for the net", "RETURNED", "FINAL", "joined"};
        for (int other = 0; other < why.length; other++) {
            int number = other;
            if (other == 1) {
                taken("as told", BoundsTermsTest::toJoin, x -> x.join(0, 1));
                taken("as told, the other one first", BoundsTermsTest::toJoin, x -> x.join(1, 0));
            } else {
                refused(why[other], STATE, BoundsTermsTest::toJoin, x -> x.join(0, number));
                refused(why[other] + ", first", STATE, BoundsTermsTest::toJoin, x -> x.join(number, 0));
            }
        }
        taken("with a HELD one", BoundsTermsTest::toJoin, x -> x.join(0, 11));
        taken("with a WAITING one", BoundsTermsTest::toJoin, x -> x.join(12, 0));
        refused("a second time", STATE, () -> {
            MillstreamPayments x = toJoin();
            x.join(0, 1);
            return x;
        }, x -> x.join(0, 1));
    }

    /** Payments: "If one of two legs is RETURNED, the other one is, too." */
    static void legsReturn() {
        for (int leg = 0; leg < 2; leg++) {
            MillstreamPayments x = toJoin();
            due("not joined: one", x.withdraw(leg), 1);
            due("the other one stays", x.stateOf(1 - leg), QUEUED);
            MillstreamPayments y = toJoin();
            y.join(0, 1);
            due("joined: both", y.withdraw(leg), 2);
            due("both are", Checks.states(y).subList(0, 2), list(RETURNED, RETURNED));
        }
        MillstreamPayments y = toJoin();
        y.join(0, 11);
        due("by a refusal", y.refuse(11), 2);
        due("the other one, too", y.stateOf(0), RETURNED);
        MillstreamPayments z = toJoin();
        z.join(12, 0);
        z.withdraw(0);
        due("a WAITING one, too", z.stateOf(12), RETURNED);
        MillstreamPayments v = new MillstreamPayments();
        v.send(0, 0, 1, 0, 1, 1, 0, true, 0, false);
        v.send(1, 0, 0, 1, 1, 1, 0, true, 0, true);
        v.send(1, 1, 0, 1, 1, 1, 0, true, 0, true);
        v.join(0, 1);
        v.endDay();
        due("at the end of a day", Checks.states(v), list(RETURNED, RETURNED, QUEUED));
    }

    /** Payments: "Where below a leg would settle, both have to be QUEUED, and settle together." */
    static void legsSettle() {
        for (int missing = 0; missing < 2; missing++) {
            MillstreamPayments x = toJoin();
            x.join(0, 1);
            x.fund(missing, missing, 9);
            x.fund(1 - missing, 1 - missing, 10);
            due("1 too little for the one", Checks.states(x).subList(0, 2), list(QUEUED, QUEUED));
            int entries = x.entries();
            x.fund(missing, missing, 1);
            due("just enough for both", Checks.states(x).subList(0, 2), list(FINAL, FINAL));
            due("together", list(x.entryAt(entries + 1, 4), x.entryAt(entries + 2, 4)), list(0, 1));
        }
        MillstreamPayments y = toJoin();
        y.join(0, 11);
        y.fund(0, 0, 10);
        y.fund(1, 2, 1);
        due("one is HELD", y.stateOf(0), QUEUED);
        y.release(11, 0);
        due("it is still", y.stateOf(0), QUEUED);
        y.release(11, 1);
        due("both are QUEUED", y.stateOf(0) * 10 + y.stateOf(11), FINAL * 11);
        MillstreamPayments z = toJoin();
        z.join(0, 12);
        z.withdraw(2);
        z.fund(0, 0, 10);
        z.fund(1, 2, 3);
        due("one is WAITING, and money enough for it and a fee of 2", z.stateOf(0), QUEUED);
        due("both at the next day's begin", z.endDay(), 2);
    }
}
