import java.util.List;

/** The boundary cases of settling: sets, queues, offsets. Each test names its sentence. */
public final class BoundsSettlingTest extends Bounds {
    public static void main(String[] args) throws ReflectiveOperationException {
        runAll(BoundsSettlingTest.class);
    }

    /** A payment of 10 from 0 to 1, and one of 20 back in the currency 1, as legs; no money. */
    private static MillstreamPayments withLegs() {
        MillstreamPayments x = new MillstreamPayments();
        paying(x, 0, 0, 1, 0, 10);
        paying(x, 1, 0, 0, 1, 20);
        x.join(0, 1);
        return x;
    }

    /** The account of 0 is at -100, with a line of 0 now. */
    private static MillstreamPayments belowItsLine() {
        MillstreamPayments x = new MillstreamPayments();
        x.line(0, 0, 100);
        real(x, 0, 0, 2, 100);
        x.line(0, 0, 0);
        return x;
    }

    /** Settling: "the places of all of them are open today" */
    static void placesOfAll() {
        for (int day = 4; day <= 7; day++) {
            MillstreamPayments x = new MillstreamPayments();
            real(x, 0, 0, 1, 1);
            endDays(x, day);
            x.fund(0, 0, 1);
            due("a QUEUED one on the day " + day, x.stateOf(0), day == 4 || day == 7 ? FINAL : QUEUED);
        }
        for (int currency = 0; currency < 3; currency++) {
            MillstreamPayments x = withLegs();
            x.holiday(currency, 0, true);
            x.fund(0, 0, 10);
            x.fund(1, 1, 20);
            due("legs when the place " + currency + " is closed", Checks.states(x),
                    currency == 2 ? list(FINAL, FINAL) : list(QUEUED, QUEUED));
            x.holiday(currency, 0, false);
            due("and when it is open", Checks.states(x), list(FINAL, FINAL));
        }
    }

    /** Settling: "no bank of theirs is out" */
    static void noBankIsOut() {
        for (int bank = 0; bank < 6; bank++) {
            MillstreamPayments x = new MillstreamPayments();
            real(x, 2, 0, 3, 1);
            x.out(bank, true);
            x.fund(2, 0, 1);
            due("from 2 to 3 when " + bank + " is out", x.stateOf(0), bank == 2 || bank == 3 ? QUEUED : FINAL);
            x.out(bank, false);
            due("and when it is back", x.stateOf(0), FINAL);
            MillstreamPayments y = new MillstreamPayments();
            net(y, 2, 0, 3, 1);
            y.out(bank, true);
            y.fund(2, 0, 1);
            due("in a cut-off when " + bank + " is out", y.endDay(), bank == 2 || bank == 3 ? 0 : 1);
        }
    }

    /** Settling: "no account that has less by it is further below 0 than its line then" */
    static void accountsInASet() {
        for (int too = 0; too < 2; too++) {
            MillstreamPayments x = withLegs();
            x.line(0, 0, 10 - too);
            x.line(1, 1, 20);
            due("a leg, " + too + " too far", x.stateOf(0) + x.stateOf(1), 2 * (too == 0 ? FINAL : QUEUED));
            MillstreamPayments y = withLegs();
            y.line(0, 0, 10);
            y.line(1, 1, 20 - too);
            due("the other leg, " + too + " too far", y.stateOf(0) + y.stateOf(1), 2 * (too == 0 ? FINAL : QUEUED));
        }
        MillstreamPayments less = belowItsLine();
        real(less, 0, 1, 1, 2);
        real(less, 1, 1, 0, 1);
        due("1 less by it, and too far below: taken out", less.offset(0), 0);
        MillstreamPayments same = belowItsLine();
        real(same, 0, 1, 1, 2);
        real(same, 1, 1, 0, 2);
        due("no less by it, though too far below", same.offset(0), 2);
        due("it is where it was", same.account(0, 0), -100);
        MillstreamPayments more = belowItsLine();
        more.line(1, 0, 2);
        real(more, 0, 1, 1, 2);
        due("one alone that has less", more.stateOf(1), QUEUED);
        real(more, 1, 1, 0, 3);
        due("one that has more by it, though too far below", more.stateOf(2), QUEUED);
        due("1 more by it", more.offset(0), 2);
        due("it is 1 higher", more.account(0, 0), -99);
        MillstreamPayments alone = belowItsLine();
        due("to get 1 is free", alone.stateOf(real(alone, 2, 0, 0, 1)), FINAL);
        due("to pay 1 is not", alone.stateOf(real(alone, 0, 5, 1, 1)), QUEUED);
        alone.line(0, 0, 99);
        due("with a line of what it is below", alone.stateOf(2), QUEUED);
        alone.line(0, 0, 100);
        due("with 1 more", alone.stateOf(2), FINAL);
    }

    /** Settling: "no bank that has paid another one more by it, on the day, is above its limit for that" */
    static void limitsInASet() {
        for (int too = 0; too < 2; too++) {
            MillstreamPayments x = withLegs();
            x.limit(0, 1, 0, 10 - too);
            x.limit(1, 0, 1, 20);
            x.fund(0, 0, 10);
            x.fund(1, 1, 20);
            due("a leg, " + too + " above", x.stateOf(0) + x.stateOf(1), 2 * (too == 0 ? FINAL : QUEUED));
            MillstreamPayments y = withLegs();
            y.limit(0, 1, 0, 10);
            y.limit(1, 0, 1, 20 - too);
            y.fund(0, 0, 10);
            y.fund(1, 1, 20);
            due("the other leg, " + too + " above", y.stateOf(0) + y.stateOf(1), 2 * (too == 0 ? FINAL : QUEUED));
        }
        due("2 - 3 paid by it: it is above its limit, but pays no more by it", aboveItsLimit(2, 3), 2);
        due("3 - 3 paid by it: so it does", aboveItsLimit(3, 3), 2);
        due("4 - 3 paid by it: 1 more", aboveItsLimit(4, 3), 0);
    }

    /** 0 paid 1 10, and has a limit of 9 for that; then it is to pay it something, and that something back. */
    private static int aboveItsLimit(int forth, int back) {
        MillstreamPayments x = new MillstreamPayments();
        x.fund(0, 0, 15);
        real(x, 0, 0, 1, 10);
        real(x, 1, 0, 2, 10);
        x.limit(0, 1, 0, 9);
        x.line(1, 0, 1);
        real(x, 0, 1, 1, forth);
        real(x, 1, 1, 0, back);
        due("not alone", Checks.states(x), list(FINAL, FINAL, QUEUED, QUEUED));
        return x.offset(0);
    }

    /** Settling: "Then all of them are FINAL, in the order of their numbers, and the book has an entry for each." */
    static void entriesInOrder() {
        MillstreamPayments one = new MillstreamPayments();
        one.fund(5, 2, 1);
        paying(one, 5, 0, 0, 2, 1);
        due("one alone", Checks.book(one, 1), list(5, 0, 2, 1, 0));
        MillstreamPayments two = new MillstreamPayments();
        paying(two, 1, 0, 0, 1, 20);
        paying(two, 0, 0, 1, 0, 10);
        two.join(1, 0);
        two.fund(1, 1, 20);
        two.fund(0, 0, 10);
        due("two legs by numbers, though the second one is come to", Checks.book(two, 2),
                list(1, 0, 1, 20, 0, 0, 1, 0, 10, 1));
        MillstreamPayments none = new MillstreamPayments();
        none.offset(0);
        none.endDay();
        due("none", none.entries(), 0);
        MillstreamPayments all = withPayments(60);
        due("60", all.offset(0), 60);
        due("60 entries", all.entries(), 60);
        for (int i = 0; i < 60; i++) {
            due("entry " + i, all.entryAt(i, 4), i);
            due("of a payment that is FINAL", all.stateOf(i), FINAL);
        }
    }

    /** Settling: "The queue of a bank in a currency has its QUEUED payments by falling ranks, of the same by rising numbers." */
    static void queueOrder() {
        MillstreamPayments x = new MillstreamPayments();
        due("none", Checks.queue(x, 0, 0), list());
        for (int i = 0; i < 60; i++) {
            x.send(0, i, 1 + i % 5, 0, 1, 1, i % 3, true, 0, true);
        }
        long[] want = new long[60];
        for (int i = 0; i < 60; i++) {
            want[i] = 2 - i / 20 + 3 * (i % 20);
        }
        due("60, of three ranks", Checks.queue(x, 0, 0), list(want));
        x.withdraw(2);
        x.withdraw(57);
        due("without the first and the last one", Checks.queue(x, 0, 0),
                list(want).subList(1, 59));
        due("other banks have none", Checks.queue(x, 1, 0), list());
    }

    /** Settling: "as long as something settles by it" */
    static void asLongAsSomethingSettles() {
        for (int missing = -1; missing <= 1; missing++) {
            MillstreamPayments x = new MillstreamPayments();
            for (int i = 0; i < 60; i++) {
                real(x, 0, i, 1 + i % 5, 1);
            }
            x.fund(0, 0, 60 - missing);
            due("60 of one queue, " + missing + " missing", finals(x), 60 - Math.max(missing, 0));
            due("what is left", x.account(0, 0), Math.max(-missing, 0));
        }
        MillstreamPayments chain = new MillstreamPayments();
        for (int i = 0; i < 60; i++) {
            int bank = 5 - i % 6;
            real(chain, bank, i, (bank + 5) % 6, 7);
        }
        chain.fund(5, 0, 6);
        due("a chain with 1 too little", finals(chain), 0);
        chain.fund(5, 0, 1);
        due("a chain of 60, against the order of banks", finals(chain), 60);
    }

    private static int finals(MillstreamPayments x) {
        int finals = 0;
        for (int i = 0; i < x.payments(); i++) {
            finals += x.stateOf(i) == FINAL ? 1 : 0;
        }
        return finals;
    }

    /** Settling: "all currencies, by rising numbers, and banks, by rising numbers, are gone through" */
    static void currenciesThenBanks() {
        MillstreamPayments x = new MillstreamPayments();
        x.out(3, true);
        int number = 0;
        for (int bank = 5; bank >= 0; bank--) {
            for (int currency = 2; bank != 3 && currency >= 0; currency--) {
                x.fund(bank, currency, 2);
                paying(x, bank, number++, 3, currency, 1);
                paying(x, bank, number++, 3, currency, 1);
            }
        }
        x.out(3, false);
        List<Long> advices = Checks.advices(x, 3);
        List<Long> first = list(28, 22, 16, 10, 4, 26, 20, 14, 8, 2, 24, 18, 12, 6, 0);
        due("the first ones of all queues", advices.subList(0, 15), first);
        for (int i = 0; i < 15; i++) {
            due("then the second ones", advices.get(15 + i), first.get(i) + 1);
        }
    }

    /** Settling: "of each queue just the payment that is the first one when it is come to settles, if it can, alone" */
    static void firstOnesAlone() {
        for (int account = 9; account <= 16; account++) {
            MillstreamPayments x = new MillstreamPayments();
            x.send(0, 0, 1, 0, 10, 1, 1, true, 0, true);
            x.send(0, 1, 1, 0, 5, 1, 1, true, 0, true);
            x.send(0, 2, 1, 0, 1, 1, 0, true, 0, true);
            x.fund(0, 0, account);
            due("with " + account, finals(x), account < 10 ? 0 : account < 15 ? 1 : account < 16 ? 2 : 3);
        }
        MillstreamPayments ring = new MillstreamPayments();
        real(ring, 0, 0, 1, 1);
        real(ring, 1, 0, 0, 1);
        due("two that could settle at once do not alone", finals(ring), 0);
    }

    /** Settling: "(a leg with its other one, which need not be the first of its queue)" */
    static void otherLegNeedNotBeFirst() {
        for (int account = 19; account <= 21; account++) {
            MillstreamPayments x = new MillstreamPayments();
            x.send(1, 0, 2, 1, 1000, 1, 2, true, 0, true);
            x.send(1, 1, 2, 1, 1000, 1, 0, true, 0, true);
            paying(x, 1, 2, 0, 1, 20);
            paying(x, 0, 0, 1, 0, 10);
            x.join(2, 3);
            x.fund(0, 0, 10);
            x.fund(1, 1, account);
            due("the last one of three, with " + account, Checks.states(x),
                    account < 20 ? list(QUEUED, QUEUED, QUEUED, QUEUED) : list(QUEUED, QUEUED, FINAL, FINAL));
        }
        MillstreamPayments neither = withLegs();
        neither.send(0, 5, 1, 0, 1000, 1, 2, true, 0, true);
        neither.send(1, 5, 2, 1, 1000, 1, 2, true, 0, true);
        neither.fund(0, 0, 999);
        neither.fund(1, 1, 999);
        due("one of them has to be", Checks.states(neither), list(QUEUED, QUEUED, QUEUED, QUEUED));
        neither.withdraw(3);
        due("any of them", Checks.states(neither), list(FINAL, FINAL, QUEUED, RETURNED));
    }

    /** Settling: "the set is all QUEUED payments of it that are no legs, and whose banks are not out" */
    static void offsetSet() {
        due("an empty set", new MillstreamPayments().offset(0), 0);
        MillstreamPayments one = new MillstreamPayments();
        real(one, 0, 0, 1, 1);
        due("a set of one that cannot settle", one.offset(0), 0);
        real(one, 1, 0, 0, 1);
        due("of two", one.offset(0), 2);
        due("of none any more", one.offset(0), 0);
        due("of 60", withPayments(60).offset(0), 60);
        for (int bank = 0; bank < 6; bank++) {
            MillstreamPayments x = new MillstreamPayments();
            for (int from = 0; from < 6; from++) {
                real(x, from, 0, from ^ 1, 1);
            }
            x.out(bank, true);
            due("three pairs when " + bank + " is out", x.offset(0), 4);
            due("its pair stays", x.stateOf(bank) + x.stateOf(bank ^ 1), 2 * QUEUED);
        }
        MillstreamPayments legs = withLegs();
        real(legs, 1, 5, 0, 10);
        due("a leg is none of them", legs.offset(0), 0);
        real(legs, 0, 5, 1, 10);
        due("one beside it is", legs.offset(0), 2);
        due("the leg stays", legs.stateOf(0), QUEUED);
        MillstreamPayments others = new MillstreamPayments();
        others.list(7, true);
        others.send(0, 0, 1, 0, 1, 7, 0, true, 0, true);
        others.send(0, 1, 1, 0, 1, 1, 0, true, 1, true);
        others.send(0, 2, 1, 0, 1, 1, 0, false, 0, true);
        paying(others, 0, 3, 1, 1, 1);
        real(others, 1, 0, 0, 1);
        due("no HELD, WAITING and NETTED one, none of another currency", others.offset(0), 0);
    }

    /** Settling: "nothing is done if the place is not open" */
    static void offsetWhenOpen() {
        for (int day = 3; day <= 8; day++) {
            MillstreamPayments x = new MillstreamPayments();
            x.holiday(0, 8, true);
            real(x, 0, 0, 1, 1);
            real(x, 1, 0, 0, 1);
            endDays(x, day);
            boolean isOpen = day < 5 || day == 7;
            due("on the day " + day, x.offset(0), isOpen ? 2 : 0);
            due("states", Checks.states(x), isOpen ? list(FINAL, FINAL) : list(QUEUED, QUEUED));
        }
    }

    /** Settling: "if some account that has less by it would be too far below 0, of the lowest such bank the last payment by its queue is taken out of the set" */
    static void offsetTakesOutByAccounts() {
        for (int line = 4; line <= 6; line++) {
            MillstreamPayments x = new MillstreamPayments();
            x.line(5, 0, line);
            x.send(5, 0, 0, 0, 15, 1, 2, true, 0, true);
            x.send(5, 1, 0, 0, 5, 1, 0, true, 0, true);
            x.send(0, 0, 5, 0, 15, 1, 0, true, 0, true);
            due("20 against 15 with a line of " + line, x.offset(0), line < 5 ? 2 : 3);
            due("the last one by its queue", x.stateOf(1), line < 5 ? QUEUED : FINAL);
        }
        MillstreamPayments ranks = new MillstreamPayments();
        ranks.send(0, 0, 1, 0, 5, 1, 0, true, 0, true);
        ranks.send(0, 1, 1, 0, 5, 1, 0, true, 0, true);
        ranks.send(0, 2, 1, 0, 5, 1, 1, true, 0, true);
        ranks.send(1, 0, 0, 0, 10, 1, 0, true, 0, true);
        due("one is taken out", ranks.offset(0), 3);
        due("of the lowest rank the last number", Checks.states(ranks), list(FINAL, QUEUED, FINAL, FINAL));
        MillstreamPayments two = new MillstreamPayments();
        for (int bank : new int[] {5, 0}) {
            two.send(bank, 0, 5 - bank, 0, 10, 1, 2, true, 0, true);
            two.send(bank, 1, 1, 0, 1, 1, 0, true, 0, true);
        }
        due("the first and the last bank, each 1 too far below", two.offset(0), 2);
        due("what is taken out of both", Checks.states(two), list(FINAL, QUEUED, FINAL, QUEUED));
    }

    /** Settling: "of the lowest bank with a limit that would be passed, and the lowest other one for which it would, the last payment from that bank to that one, by its queue" */
    static void offsetTakesOutByLimits() {
        for (int limit = 4; limit <= 6; limit++) {
            MillstreamPayments x = new MillstreamPayments();
            x.line(5, 0, 5);
            x.limit(5, 0, 0, limit);
            x.send(5, 0, 0, 0, 15, 1, 2, true, 0, true);
            x.send(5, 1, 0, 0, 5, 1, 0, true, 0, true);
            x.send(0, 0, 5, 0, 15, 1, 0, true, 0, true);
            due("20 - 15 with a limit of " + limit, x.offset(0), limit < 5 ? 2 : 3);
            due("the last one by its queue", x.stateOf(1), limit < 5 ? QUEUED : FINAL);
        }
        MillstreamPayments banks = new MillstreamPayments();
        banks.limit(4, 5, 0, 1);
        banks.limit(5, 1, 0, 1);
        banks.send(4, 0, 5, 0, 5, 1, 2, true, 0, true);
        banks.send(5, 1, 1, 0, 4, 1, 2, true, 0, true);
        banks.send(5, 2, 4, 0, 3, 1, 1, true, 0, true);
        banks.line(4, 0, 5);
        banks.line(5, 0, 6);
        due("4 to 5 is taken out ahead of 5 to 1, so 5 to 4 for an account, and none is left", banks.offset(0), 0);
        MillstreamPayments others = new MillstreamPayments();
        others.limit(4, 1, 0, 3);
        others.limit(4, 0, 0, 1);
        others.send(4, 0, 1, 0, 4, 1, 0, true, 0, true);
        others.send(5, 1, 4, 0, 4, 1, 2, true, 0, true);
        others.send(4, 2, 0, 0, 4, 1, 2, true, 0, true);
        others.send(1, 3, 5, 0, 7, 1, 0, true, 0, true);
        others.send(4, 4, 1, 0, 3, 1, 2, true, 0, true);
        others.send(5, 5, 4, 0, 8, 1, 2, true, 0, true);
        others.line(5, 0, 6);
        due("4 to 0 is taken out ahead of 4 to 1, so one of 3 to 1 is left", others.offset(0), 1);
        due("just that", Checks.states(others), list(QUEUED, FINAL, QUEUED, QUEUED, FINAL, QUEUED));
    }

    /** Settling: "What is left settles. Then the queues are run." */
    static void whatIsLeftSettles() {
        for (int account = 0; account <= 3; account++) {
            MillstreamPayments x = new MillstreamPayments();
            for (int i = 0; i < 60; i++) {
                x.send(0, i, 1, 0, i == 0 ? 2 : 1, 1, i == 0 ? 2 : 0, true, 0, true);
            }
            x.line(0, 0, account);
            int alone = account < 2 ? 0 : account - 1;
            due("59 behind one of 2, with a line of " + account, finals(x), alone);
            due("the same is left by an offset", x.offset(0), 0);
        }
        MillstreamPayments queues = new MillstreamPayments();
        queues.send(0, 0, 1, 0, 10, 1, 2, true, 0, true);
        queues.send(1, 0, 0, 0, 10, 1, 0, true, 0, true);
        paying(queues, 0, 1, 1, 0, 5);
        paying(queues, 1, 1, 0, 1, 5);
        queues.send(1, 2, 2, 1, 1000, 1, 2, true, 0, true);
        queues.join(2, 3);
        queues.fund(0, 0, 5);
        queues.fund(1, 1, 5);
        due("nothing ahead of it", finals(queues), 0);
        due("two by the set", queues.offset(0), 2);
        due("two by the queues", finals(queues), 4);
    }

    /** Settling: "At the end of each call that makes or changes a payment, an account, a line, a limit, a holiday, a name or an outage, the queues are run." */
    static void queuesAreRun() {
        runs("a payment comes, withdrawn is the one ahead", x -> x.withdraw(1), 0);
        runs("an account, 1 too little", x -> x.fund(0, 0, 9), 0);
        runs("an account, just enough", x -> x.fund(0, 0, 10), 1);
        runs("a line, 1 too little", x -> x.line(0, 0, 9), 0);
        runs("a line, just enough", x -> x.line(0, 0, 10), 1);
        runs("a limit, 1 too little", x -> {
            x.limit(0, 1, 0, 0);
            x.fund(0, 0, 10);
            x.limit(0, 1, 0, 9);
        }, 0);
        runs("a limit, just enough", x -> {
            x.limit(0, 1, 0, 0);
            x.fund(0, 0, 10);
            x.limit(0, 1, 0, 10);
        }, 1);
        runs("a holiday, of the day after", x -> {
            x.holiday(0, 0, true);
            x.fund(0, 0, 10);
            x.holiday(0, 1, false);
        }, 0);
        runs("a holiday, of today", x -> {
            x.holiday(0, 0, true);
            x.fund(0, 0, 10);
            x.holiday(0, 0, false);
        }, 1);
        runs("a name, the one beside", x -> {
            first(x);
            x.list(8, true);
        }, 0);
        runs("a name, the one of what is ahead", x -> {
            first(x);
            x.list(7, true);
        }, 1);
        runs("an outage, of the bank beside", x -> {
            x.out(1, true);
            x.fund(0, 0, 10);
            x.out(2, false);
        }, 0);
        runs("an outage", x -> {
            x.out(1, true);
            x.fund(0, 0, 10);
            x.out(1, false);
        }, 1);
        runs("a withdrawal of what is ahead", x -> {
            first(x);
            x.withdraw(2);
        }, 1);
        runs("a joining of what is ahead", x -> {
            first(x);
            paying(x, 1, 5, 0, 1, 1000);
            x.join(2, 3);
        }, 0);
        runs("a payment that gives what is missing", x -> {
            x.fund(2, 0, 10);
            real(x, 2, 0, 0, 10);
        }, 1);
        runs("a payment that gives 1 less", x -> {
            x.fund(2, 0, 10);
            real(x, 2, 0, 0, 9);
        }, 0);
        runs("a refusal, of what is beside", x -> {
            first(x);
            x.list(8, true);
            x.send(1, 5, 0, 1, 1000, 8, 0, true, 0, true);
            x.refuse(3);
        }, 0);
        runs("a refusal, of the other leg of what is ahead", x -> {
            first(x);
            x.list(8, true);
            x.send(1, 5, 0, 1, 1000, 8, 0, true, 0, true);
            x.join(2, 3);
            x.refuse(3);
        }, 1);
        runs("a release, by one", x -> {
            x.list(1, true);
            x.fund(0, 0, 10);
            x.release(0, 0);
        }, -1);
        runs("a release, by two", x -> {
            x.list(1, true);
            x.fund(0, 0, 10);
            x.release(0, 0);
            x.release(0, 1);
        }, 1);
        runs("an answer, that gives back 1 too little", x -> givesBack(x, 9), 0);
        runs("an answer, that gives back just enough", x -> givesBack(x, 10), 1);
    }

    /** One that is ahead of the payment 0, and never can settle; money for the payment 0. */
    private static void first(MillstreamPayments x) {
        x.send(0, 1, 1, 0, 1000, 7, 2, true, 0, true);
        x.fund(0, 0, 10);
    }

    private static void givesBack(MillstreamPayments x, int amount) {
        x.send(0, 1, 2, 0, amount, 1, 2, true, 0, true);
        x.fund(0, 0, amount);
        due("nothing is left for the payment 0", x.account(0, 0), 0);
        x.recall(2);
        x.answer(2, true);
    }

    private static void runs(String what, Call call, int want) {
        MillstreamPayments x = new MillstreamPayments();
        real(x, 0, 0, 1, 10);
        paying(x, 5, 0, 4, 2, 10);
        due("QUEUED ahead of it", finals(x), 0);
        call.on(x);
        due(what, x.stateOf(0), want == 1 ? FINAL : want == 0 ? QUEUED : HELD);
    }
}
