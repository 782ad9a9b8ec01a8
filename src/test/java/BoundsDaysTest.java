import java.util.List;

/** The boundary cases of the end of a day, of recalls, outages and advices. Each test names its sentence. */
public final class BoundsDaysTest extends Bounds {
    public static void main(String[] args) throws ReflectiveOperationException {
        runAll(BoundsDaysTest.class);
    }

    /** The end of a day: "For each currency whose place is open: the cut-off." */
    static void cutOffWhenOpen() {
        for (int currency = 0; currency < 3; currency++) {
            for (int day = 3; day <= 8; day++) {
                MillstreamPayments x = new MillstreamPayments();
                x.holiday(currency, 8, true);
                x.send(0, 0, 1, currency, 5, 1, 0, false, 0, true);
                endDays(x, day);
                x.fund(0, currency, 5);
                boolean isOpen = day < 5 || day == 7;
                due("currency " + currency + " day " + day, x.endDay(), isOpen ? 1 : 0);
                due("state", x.stateOf(0), isOpen ? FINAL : NETTED);
            }
        }
    }

    /** The end of a day: "The set is all NETTED payments of it whose banks are not out" */
    static void cutOffSet() {
        due("an empty set", new MillstreamPayments().endDay(), 0);
        MillstreamPayments all = new MillstreamPayments();
        for (int i = 0; i < 60; i++) {
            net(all, i / 10, i % 10, (i / 10 + 1) % 6, 1);
        }
        due("a set of 60", all.endDay(), 60);
        for (int bank = 0; bank < 6; bank++) {
            MillstreamPayments x = new MillstreamPayments();
            for (int from = 0; from < 6; from++) {
                net(x, from, 0, from ^ 1, 1);
            }
            x.out(bank, true);
            due("three pairs when " + bank + " is out", x.endDay(), 4);
            due("its pair stays", x.stateOf(bank) + x.stateOf(bank ^ 1), 2 * NETTED);
            x.out(bank, false);
            due("until the next one", x.endDay(), 2);
        }
        MillstreamPayments others = new MillstreamPayments();
        others.list(7, true);
        others.send(0, 0, 1, 0, 1, 7, 0, false, 0, true);
        others.send(0, 1, 1, 0, 1, 1, 0, false, 1, true);
        real(others, 0, 2, 1, 1);
        others.send(0, 3, 1, 1, 1, 1, 0, false, 0, true);
        net(others, 1, 0, 0, 1);
        due("no HELD, WAITING and QUEUED one, none of another currency", others.endDay(), 0);
    }

    /** The end of a day: "the last one by numbers of the lowest bank whose account, having less by it, would be too far below 0 is taken out" */
    static void cutOffTakesOutByAccounts() {
        for (int account = 0; account <= 61; account++) {
            MillstreamPayments x = new MillstreamPayments();
            for (int i = 0; i < 60; i++) {
                x.send(5, i, 0, 0, 1, 1, i % 3, false, 0, true);
            }
            x.line(5, 0, account);
            int settled = Math.min(account, 60);
            due("60 with a line of " + account, x.endDay(), settled);
            due("the first ones by numbers", settled == 0 || x.stateOf(settled - 1) == FINAL, true);
            due("not one more", settled == 60 || x.stateOf(settled) == NETTED, true);
        }
        for (int line = 98; line <= 101; line++) {
            MillstreamPayments x = new MillstreamPayments();
            x.line(0, 0, 100);
            real(x, 0, 0, 2, 100);
            net(x, 0, 1, 1, 5);
            net(x, 1, 1, 0, line == 98 ? 4 : 5);
            x.line(0, 0, line == 98 ? 99 : 0);
            x.line(1, 0, 5);
            due("no less by it, or 1 less, when it is too far below 0", x.endDay(), line == 98 ? 1 : 2);
            due("then it is taken out", x.stateOf(1), line == 98 ? NETTED : FINAL);
        }
    }

    /** The end of a day: "the last one by numbers from the lowest bank with a limit that would be passed to the lowest one for which it would" */
    static void cutOffTakesOutByLimits() {
        for (int limit = -1; limit <= 61; limit++) {
            MillstreamPayments x = new MillstreamPayments();
            x.fund(5, 0, 100);
            for (int i = 0; i < 60; i++) {
                x.send(5, i, 0, 0, 1, 1, i % 3, false, 0, true);
            }
            x.limit(5, 0, 0, limit);
            int settled = limit == NONE ? 60 : Math.min(limit, 60);
            due("60 with a limit of " + limit, x.endDay(), settled);
            due("the first ones by numbers", settled == 0 || x.stateOf(settled - 1) == FINAL, true);
            due("not one more", settled == 60 || x.stateOf(settled) == NETTED, true);
        }
        MillstreamPayments banks = new MillstreamPayments();
        banks.limit(4, 5, 0, 1);
        banks.limit(5, 1, 0, 1);
        banks.line(4, 0, 5);
        banks.line(5, 0, 6);
        net(banks, 4, 0, 5, 5);
        net(banks, 5, 1, 1, 4);
        net(banks, 5, 2, 4, 3);
        due("4 to 5 is taken out ahead of 5 to 1, so 5 to 4 for an account, and none is left", banks.endDay(), 0);
        MillstreamPayments others = new MillstreamPayments();
        others.limit(4, 0, 0, 1);
        others.limit(4, 1, 0, 3);
        others.fund(4, 0, 4);
        others.fund(5, 0, 2);
        net(others, 4, 0, 0, 4);
        net(others, 4, 1, 1, 3);
        net(others, 1, 2, 5, 7);
        net(others, 4, 3, 1, 4);
        net(others, 5, 4, 4, 8);
        due("4 to 0 is taken out ahead of 4 to 1, so one of 3 to 1 is left", others.endDay(), 1);
        due("just that", Checks.states(others), list(NETTED, FINAL, NETTED, NETTED, NETTED));
    }

    /** The end of a day: "What is left settles; the others stay NETTED." */
    static void othersStayNetted() {
        MillstreamPayments x = new MillstreamPayments();
        x.fund(0, 0, 14);
        net(x, 0, 0, 1, 10);
        net(x, 0, 1, 1, 5);
        due("1 too little", x.endDay(), 1);
        due("the one is left", Checks.states(x), list(FINAL, NETTED));
        x.fund(0, 0, 1);
        due("it stays NETTED, whatever money comes", x.stateOf(1), NETTED);
        due("a fee of 1 was paid, so it is still 1 too little", x.endDay(), 0);
        x.fund(0, 0, 1);
        due("just enough", x.endDay(), 1);
        due("it settles in the next cut-off alone", Checks.states(x), list(FINAL, FINAL));
    }

    /** The end of a day: "QUEUED and NETTED payments that may not stay over, of currencies whose place is open, are RETURNED, by rising numbers." */
    static void returned() {
        MillstreamPayments x = new MillstreamPayments();
        x.list(7, true);
        for (int i = 0; i < 10; i++) {
            boolean stays = i % 2 == 0;
            if (i < 4) {
                x.send(0, i, 1, 0, 5, 1, 0, i < 2, 0, stays);
            } else if (i < 6) {
                x.send(0, i, 1, 0, 5, 7, 0, true, 0, stays);
            } else if (i < 8) {
                x.send(0, i, 1, 0, 5, 1, 0, true, 2, stays);
            } else {
                x.send(0, i, 1, 1, 5, 1, 0, true, 0, stays);
            }
        }
        x.holiday(1, 0, true);
        due("none on the day itself", Checks.states(x),
                list(QUEUED, QUEUED, NETTED, NETTED, HELD, HELD, WAITING, WAITING, QUEUED, QUEUED));
        x.endDay();
        due("QUEUED and NETTED ones of an open place", Checks.states(x),
                list(QUEUED, RETURNED, NETTED, RETURNED, HELD, HELD, WAITING, WAITING, QUEUED, QUEUED));
        x.endDay();
        due("of the other place on its next open day, those that entered not yet", Checks.states(x),
                list(QUEUED, RETURNED, NETTED, RETURNED, HELD, HELD, QUEUED, QUEUED, QUEUED, RETURNED));
        x.endDay();
        due("a day later they are", Checks.states(x),
                list(QUEUED, RETURNED, NETTED, RETURNED, HELD, HELD, QUEUED, RETURNED, QUEUED, RETURNED));
        MillstreamPayments week = new MillstreamPayments();
        week.list(7, true);
        week.send(0, 0, 1, 0, 5, 7, 0, true, 0, false);
        endDays(week, 5);
        week.release(0, 0);
        week.release(0, 1);
        for (int day = 5; day <= 7; day++) {
            due("QUEUED on the day " + day, week.stateOf(0), QUEUED);
            week.endDay();
        }
        due("RETURNED at the end of the day 7", week.stateOf(0), RETURNED);
    }

    /** The end of a day: "each bank pays the switch, in each currency, 2 for each real payment that it sent and that became FINAL on the day, and 1 for each of the net" */
    static void fees() {
        for (int many : new int[] {0, 1, 2, 58, 59, 60}) {
            MillstreamPayments x = new MillstreamPayments();
            MillstreamPayments y = new MillstreamPayments();
            x.fund(5, 2, 1000);
            y.fund(5, 2, 1000);
            for (int i = 0; i < 60; i++) {
                x.send(5, i, 0, 2, 1, 1, 0, true, i < many ? 0 : 1, true);
                y.send(5, i, 0, 2, 1, 1, 0, false, i < many ? 0 : 1, true);
            }
            x.endDay();
            y.endDay();
            due("2 for each of " + many, x.account(6, 2), 2 * many);
            due("1 for each of the net of " + many, y.account(6, 2), many);
            due("the bank that sent", x.account(5, 2), 1000 - 60 - 2 * many);
            due("the bank that got them pays none", x.account(0, 2), 60);
            x.endDay();
            y.endDay();
            due("on the next day for the others alone", x.account(6, 2), 120);
            due("on the next day for the others of the net alone", y.account(6, 2), 60);
        }
        MillstreamPayments none = new MillstreamPayments();
        none.list(7, true);
        none.send(0, 0, 1, 0, 5, 7, 0, true, 0, true);
        real(none, 0, 1, 1, 5);
        real(none, 0, 2, 1, 5);
        none.withdraw(2);
        none.send(0, 3, 1, 0, 5, 1, 0, true, 1, true);
        net(none, 0, 4, 1, 5);
        none.endDay();
        due("for those that are not FINAL none", none.entries(), 0);
    }

    /** The end of a day: "the amount that its account is below 0 ahead of these, divided by 100, rounded up" */
    static void interest() {
        int[][] due = {{0, 0}, {1, 1}, {2, 1}, {99, 1}, {100, 1}, {101, 2}, {199, 2}, {200, 2}, {201, 3},
            {999900, 9999}, {999901, 10000}, {1000000, 10000}};
        for (int[] of : due) {
            MillstreamPayments x = new MillstreamPayments();
            x.line(5, 1, 1000000);
            if (of[0] > 0) {
                net(x, 5, 0, 0, 1);
                x.withdraw(0);
                paying(x, 5, 1, 0, 1, of[0]);
            }
            x.endDay();
            due("of " + of[0] + " ahead of a fee of 2", x.account(6, 1), of[1] + (of[0] > 0 ? 2 : 0));
        }
        for (int above = 0; above <= 2; above++) {
            MillstreamPayments x = new MillstreamPayments();
            x.fund(0, 0, 5 + above);
            real(x, 0, 0, 1, 5);
            x.endDay();
            due("the fee puts it to " + (above - 2) + ", but it was not below 0", x.account(0, 0), above - 2);
            x.endDay();
            due("on the next day it was, or not", x.account(0, 0), above < 2 ? above - 3 : 0);
        }
    }

    /** The end of a day: "(By that an account can be further below 0 than its line.)" */
    static void belowTheLine() {
        MillstreamPayments x = new MillstreamPayments();
        x.line(0, 0, 10);
        real(x, 0, 0, 1, 10);
        due("at its line", x.account(0, 0), -10);
        x.endDay();
        due("further below by a fee of 2 and interest of 1", x.account(0, 0), -13);
        due("it pays nothing then", x.stateOf(real(x, 0, 1, 2, 1)), QUEUED);
        x.fund(0, 0, 3);
        due("nor at its line", x.stateOf(1), QUEUED);
        x.fund(0, 0, 1);
        due("1 above it", x.stateOf(1), FINAL);
        due("at its line again", x.account(0, 0), -10);
        MillstreamPayments y = new MillstreamPayments();
        y.line(0, 0, 10);
        real(y, 0, 0, 1, 9);
        y.endDay();
        due("1 above its line, then 2 below", y.account(0, 0), -12);
    }

    /** The end of a day: "The book has an entry for each that is above 0, by rising banks, then currencies, of each the fees first." */
    static void feesInOrder() {
        MillstreamPayments x = new MillstreamPayments();
        for (int bank : new int[] {5, 0}) {
            for (int currency : new int[] {2, 0}) {
                x.line(bank, currency, 1);
                paying(x, bank, currency, 1, currency, 1);
            }
        }
        x.fund(3, 1, 1);
        paying(x, 3, 0, 4, 1, 1);
        int before = x.entries();
        x.endDay();
        due("fees and interest of 0 and 5, a fee alone of 3", Checks.book(x, before), list(
                0, 6, 0, 2, -1, 0, 6, 0, 1, -1, 0, 6, 2, 2, -1, 0, 6, 2, 1, -1, 3, 6, 1, 2, -1,
                5, 6, 0, 2, -1, 5, 6, 0, 1, -1, 5, 6, 2, 2, -1, 5, 6, 2, 1, -1));
        before = x.entries();
        x.endDay();
        due("interest alone", Checks.book(x, before), list(0, 6, 0, 1, -1, 0, 6, 2, 1, -1, 3, 6, 1, 1, -1,
                5, 6, 0, 1, -1, 5, 6, 2, 1, -1));
        MillstreamPayments none = new MillstreamPayments();
        none.fund(0, 0, 1);
        none.endDay();
        due("none of 0", none.entries(), 1);
    }

    /** The end of a day: "what was paid on the day counts no more" */
    static void paidCountsNoMore() {
        MillstreamPayments x = new MillstreamPayments();
        x.fund(0, 0, 100);
        x.limit(0, 1, 0, 10);
        for (int day = 0; day < 5; day++) {
            due("nothing at the begin of the day " + day, x.paid(0, 1, 0), 0);
            due("just the limit", x.stateOf(x.send(0, 2 * day, 1, 0, 10, 1, 0, true, 0, false)), FINAL);
            due("1 more is not", x.stateOf(x.send(0, 2 * day + 1, 1, 0, 1, 1, 0, true, 0, false)), QUEUED);
            due("paid at its end", x.paid(0, 1, 0), 10);
            due("nothing settles by that", x.endDay(), 0);
        }
        MillstreamPayments y = new MillstreamPayments();
        y.fund(0, 0, 100);
        y.limit(0, 1, 0, 10);
        real(y, 0, 0, 1, 10);
        real(y, 0, 1, 1, 10);
        due("the queues of the next day count from its begin", y.endDay(), 1);
        due("so much", y.paid(0, 1, 0), 10);
        due("and back", y.paid(1, 0, 0), -10);
    }

    /** The end of a day: "WAITING payments whose day has come and whose place is open enter (only then), by rising numbers; then the queues are run." */
    static void waitingEnter() {
        for (int closed = 1; closed <= 3; closed++) {
            MillstreamPayments x = new MillstreamPayments();
            x.fund(0, 2, 100);
            x.holiday(2, closed, true);
            x.send(0, 0, 1, 2, 1, 1, 0, true, 2, true);
            due("on the day 0", x.stateOf(0), WAITING);
            x.endDay();
            due("on the day 1", x.stateOf(0), WAITING);
            due("on the day 2, settled by the queues", x.endDay(), closed == 2 ? 0 : 1);
            due("state on the day 2", x.stateOf(0), closed == 2 ? WAITING : FINAL);
            x.holiday(2, 2, false);
            due("only then, not when a holiday is taken away", x.stateOf(0), closed == 2 ? WAITING : FINAL);
            due("on the day 3", x.endDay(), closed == 2 ? 1 : 0);
        }
        MillstreamPayments week = new MillstreamPayments();
        week.fund(0, 0, 100);
        for (int day = 4; day <= 8; day++) {
            week.send(0, day, 1, 0, 1, 1, 0, true, day, true);
        }
        int[] settled = {0, 0, 0, 1, 0, 0, 3, 1};
        for (int day = 0; day < 8; day++) {
            due("at the end of the day " + day, week.endDay(), settled[day]);
        }
        MillstreamPayments last = new MillstreamPayments();
        last.send(0, 0, 1, 0, 1, 1, 0, true, 999, true);
        endDays(last, 998);
        due("the day 999 never comes", last.stateOf(0), WAITING);
    }

    /** FINAL on a day, and then so many days later. */
    private static MillstreamPayments finalOn(int day, int later) {
        MillstreamPayments x = new MillstreamPayments();
        x.fund(0, 0, 100);
        x.send(0, 0, 1, 0, 5, 3, 1, true, day, false);
        real(x, 2, 0, 3, 5);
        endDays(x, day);
        due("FINAL on its day", x.stateOf(0), FINAL);
        endDays(x, later);
        return x;
    }

    /** The end of a day: "A bank can recall a payment of its own that is FINAL, up to 3 days behind the day on which it became that, once." */
    static void recallsInTime() {
        for (int day : new int[] {0, 1, 4, 7}) {
            for (int later = 0; later <= 5; later++) {
                int on = day;
                int by = later;
                if (later <= 3) {
                    due("of the day " + day + ", " + later + " later", finalOn(day, later).recall(0), day + later + 2);
                } else {
                    refused("of the day " + day + ", " + later + " later", STATE, () -> finalOn(on, by),
                            x -> x.recall(0));
                }
            }
        }
        refused("twice", STATE, () -> {
            MillstreamPayments x = finalOn(0, 3);
            x.recall(0);
            return x;
        }, x -> x.recall(0));
        refused("of one that is not FINAL", STATE, () -> finalOn(0, 0), x -> x.recall(1));
    }

    private static MillstreamPayments recalled(int later) {
        MillstreamPayments x = finalOn(0, 3);
        x.recall(0);
        endDays(x, later);
        return x;
    }

    /** The end of a day: "The other bank answers it, up to 2 days behind that" */
    static void answersInTime() {
        for (boolean isYes : new boolean[] {false, true}) {
            for (int later = 0; later <= 4; later++) {
                int by = later;
                if (later <= 2) {
                    due("answered " + later + " later", recalled(later).answer(0, isYes), isYes ? 2 : NONE);
                } else {
                    refused("answered " + later + " later", STATE, () -> recalled(by), x -> x.answer(0, isYes));
                }
            }
            refused("twice", STATE, () -> {
                MillstreamPayments x = recalled(2);
                x.answer(0, !isYes);
                return x;
            }, x -> x.answer(0, isYes));
            refused("not recalled", STATE, () -> finalOn(0, 0), x -> x.answer(0, isYes));
        }
    }

    /** The end of a day: "with yes a new payment back comes, of the same amount, of the rank 2, real, for the payee 0, for today, that may stay over; it has no message" */
    static void paymentBack() {
        MillstreamPayments x = recalled(0);
        x.send(1, 1, 2, 0, 100, 1, 2, true, 3, true);
        x.send(1, 2, 2, 0, 100, 1, 1, true, 3, true);
        x.answer(0, true);
        due("real, of the rank 2", Checks.queue(x, 1, 0), list(2, 4, 3));
        endDays(x, 1);
        due("it may stay over", x.stateOf(4), QUEUED);
        x.withdraw(2);
        due("of the same amount", Checks.book(x, x.entries() - 1), list(1, 0, 0, 5, 4));
        MillstreamPayments held = recalled(0);
        held.list(0, true);
        due("for the payee 0", held.stateOf(held.answer(0, true)), HELD);
        MillstreamPayments beside = recalled(0);
        beside.list(1, true);
        beside.list(3, true);
        due("not for another one", beside.stateOf(beside.answer(0, true)), FINAL);
        MillstreamPayments closed = recalled(2);
        due("for today, on a day on which the place is closed", closed.stateOf(closed.answer(0, true)), WAITING);
        endDays(closed, 1);
        due("and on the next one", closed.stateOf(2), WAITING);
        endDays(closed, 1);
        due("until it is open", closed.stateOf(2), FINAL);
        MillstreamPayments numbers = recalled(0);
        numbers.answer(0, true);
        for (int message = 0; message < 57; message++) {
            due("all messages are free", real(numbers, 1, message, 0, 1000), 3 + message);
        }
    }

    /** The end of a day: "A bank can be out; it sends no messages then, and takes no advices." */
    static void outages() {
        for (int bank = 0; bank < 6; bank++) {
            int out = bank;
            int to = (bank + 1) % 6;
            Made made = () -> {
                MillstreamPayments x = new MillstreamPayments();
                x.fund(to, 0, 5);
                real(x, to, 0, out, 5);
                x.out(out, true);
                return x;
            };
            refused("out it sends none", STATE, made, x -> real(x, out, 0, to, 1));
            taken("the next bank does", made, x -> real(x, to, 1, (to + 1) % 6, 1));
            MillstreamPayments x = made.anew();
            due("out it takes none", x.advice(bank), NONE);
            x.out(bank, false);
            due("then it does", x.advice(bank), 0);
            due("no more than there are", x.advice(bank), NONE);
        }
    }

    /** The end of a day: "For each payment that becomes FINAL the bank that gets it has an advice, in the order in which they became so." */
    static void advices() {
        MillstreamPayments none = new MillstreamPayments();
        real(none, 0, 0, 1, 5);
        due("none for what is not FINAL", none.advice(1), NONE);
        MillstreamPayments all = new MillstreamPayments();
        for (int i = 0; i < 60; i++) {
            real(all, i % 5, i / 5, 5, 1 + i % 5);
        }
        for (int bank = 4; bank >= 0; bank--) {
            all.fund(bank, 0, 12 * (bank + 1));
        }
        List<Long> got = Checks.advices(all, 5);
        due("60", got.size(), 60);
        for (int i = 0; i < 60; i++) {
            due("advice " + i, got.get(i), (4 - i / 12) + 5 * (i % 12));
        }
        due("none more", all.advice(5), NONE);
        for (int bank = 0; bank < 5; bank++) {
            due("none for who paid", all.advice(bank), NONE);
        }
    }

    /** The end of a day: "It takes them one by one; it can ask for them again, from one of them on." */
    static void takesOneByOne() {
        for (int from = 0; from <= 3; from++) {
            MillstreamPayments x = threeAdvices();
            for (int i = 0; i < 3; i++) {
                due("one by one", x.advice(1), i);
            }
            due("again from " + from, x.again(1, from), 3 - from);
            for (int i = from; i < 3; i++) {
                due("again", x.advice(1), i);
            }
            due("no more", x.advice(1), NONE);
        }
        refused("from one beyond", ARGUMENT, () -> {
            MillstreamPayments x = threeAdvices();
            Checks.advices(x, 1);
            return x;
        }, x -> x.again(1, 4));
    }

    private static MillstreamPayments threeAdvices() {
        MillstreamPayments x = new MillstreamPayments();
        x.fund(0, 0, 3);
        for (int i = 0; i < 3; i++) {
            real(x, 0, i, 1, 1);
        }
        return x;
    }
}
