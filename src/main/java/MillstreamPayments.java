import java.util.ArrayList;

/**
 * A switch for payments between banks. The methods of the face look at what they are given, in the
 * order of their throws clauses; the Exchange behind them does the work.
 */
public final class MillstreamPayments {
    public static final int NONE = -1;
    public static final int WAITING = 0, HELD = 1, QUEUED = 2, NETTED = 3, FINAL = 4, RETURNED = 5;

    private static final int BANKS = 6;
    /** The switch has an account behind those of the banks, and nothing else that a bank has. */
    private static final int SWITCH = 6;
    private static final int ACCOUNTS = 7;
    private static final int CURRENCIES = 3;
    private static final int NAMES = 20;
    private static final int OFFICERS = 4;
    private static final int MESSAGES = 100;
    private static final int MOST_PAYMENTS = 60;
    private static final int MOST_AMOUNT = 1000000;
    private static final int TOP_RANK = 2;
    private static final int DAYS = 1000;
    private static final int LAST_DAY = 998;
    private static final int DAYS_TO_RECALL = 3;
    private static final int DAYS_TO_ANSWER = 2;
    private static final int REAL_FEE = 2;
    private static final int NET_FEE = 1;
    /** 512 calls make fewer: at most 36 a call, for fees and interest, and one for each payment. */
    private static final int MOST_ENTRIES = 20000;

    private final Exchange exchange;

    public MillstreamPayments() {
        exchange = new Exchange();
    }

    // ---- banks

    public long fund(int bank, int currency, int amount)
            throws IndexOutOfBoundsException, IllegalArgumentException {
        needPlace(bank, BANKS);
        needPlace(currency, CURRENCIES);
        needRange(amount, 1, MOST_AMOUNT);
        exchange.accounts.move(NONE, bank, currency, amount, NONE);
        exchange.runQueues();
        return exchange.accounts.balanceOf(bank, currency);
    }

    public int line(int bank, int currency, int line)
            throws IndexOutOfBoundsException, IllegalArgumentException {
        needPlace(bank, BANKS);
        needPlace(currency, CURRENCIES);
        needRange(line, 0, MOST_AMOUNT);
        int before = exchange.accounts.changeLine(bank, currency, line);
        exchange.runQueues();
        return before;
    }

    public int limit(int bank, int other, int currency, int limit)
            throws IndexOutOfBoundsException, IllegalArgumentException {
        needPlace(bank, BANKS);
        needPlace(other, BANKS);
        needPlace(currency, CURRENCIES);
        needTwoBanks(bank, other);
        needRange(limit, NONE, MOST_AMOUNT);
        int before = exchange.accounts.changeLimit(pairSlot(bank, other, currency), limit);
        exchange.runQueues();
        return before;
    }

    public boolean out(int bank, boolean is) throws IndexOutOfBoundsException {
        needPlace(bank, BANKS);
        boolean before = exchange.outages.isSet(bank);
        exchange.outages.mark(bank, is);
        exchange.runQueues();
        return before;
    }

    public boolean holiday(int currency, int day, boolean is)
            throws IndexOutOfBoundsException, IllegalArgumentException {
        needPlace(currency, CURRENCIES);
        needRange(day, 0, DAYS - 1);
        exchange.calendar.changeHoliday(currency, day, is);
        exchange.runQueues();
        return exchange.calendar.isOpen(currency, day);
    }

    public int list(int name, boolean is) throws IndexOutOfBoundsException {
        needPlace(name, NAMES);
        exchange.listed.mark(name, is);
        int held = is ? exchange.holdPaymentsFor(name) : 0;
        exchange.runQueues();
        return held;
    }

    // ---- payments

    public int send(int bank, int message, int to, int currency, int amount, int payee, int rank,
            boolean isReal, int day, boolean stays)
            throws IndexOutOfBoundsException, IllegalArgumentException, IllegalStateException {
        needPlace(bank, BANKS);
        needPlace(message, MESSAGES);
        needPlace(to, BANKS);
        needPlace(currency, CURRENCIES);
        needPlace(payee, NAMES);
        needTwoBanks(bank, to);
        needRange(amount, 1, MOST_AMOUNT);
        needRange(rank, 0, TOP_RANK);
        needRange(day, 0, DAYS - 1);
        needState(!exchange.outages.isSet(bank));
        Terms terms = new Terms(bank, to, currency, amount);
        terms.arrange(payee, rank, isReal, day, stays);
        Payment known = exchange.register.toldBy(bank, message);
        if (known != null) {
            needState(known.terms.isLike(terms));
            exchange.doubles++;
            return known.number;
        }
        needState(!exchange.register.isFull());
        int number = exchange.bringIn(terms);
        exchange.register.keepMessage(bank, message, number);
        exchange.runQueues();
        return number;
    }

    public int doubles() {
        return exchange.doubles;
    }

    public void join(int payment, int other) throws IndexOutOfBoundsException, IllegalStateException {
        Payment one = needPayment(payment);
        Payment two = needPayment(other);
        needState(one.canBeLegWith(two));
        one.leg = two;
        two.leg = one;
        exchange.runQueues();
    }

    public int withdraw(int payment) throws IndexOutOfBoundsException, IllegalStateException {
        Payment withdrawn = needPayment(payment);
        needState(!withdrawn.hasEnded());
        int returned = withdrawn.giveBack();
        exchange.runQueues();
        return returned;
    }

    public boolean release(int payment, int officer)
            throws IndexOutOfBoundsException, IllegalStateException {
        Payment held = needPayment(payment);
        needPlace(officer, OFFICERS);
        needState(held.state == HELD && held.officer != officer);
        boolean isSecond = held.officer != NONE;
        held.officer = officer;
        if (isSecond) {
            held.isReleased = true;
            exchange.letEnter(held);
        }
        exchange.runQueues();
        return isSecond;
    }

    public int refuse(int payment) throws IndexOutOfBoundsException, IllegalStateException {
        Payment held = needPayment(payment);
        needState(held.state == HELD);
        int returned = held.giveBack();
        exchange.runQueues();
        return returned;
    }

    public int offset(int currency) throws IndexOutOfBoundsException {
        needPlace(currency, CURRENCIES);
        int settled = exchange.settleMost(currency, QUEUED);
        exchange.runQueues();
        return settled;
    }

    public int recall(int payment) throws IndexOutOfBoundsException, IllegalStateException {
        Payment recalled = needPayment(payment);
        int today = exchange.calendar.day;
        needState(recalled.state == FINAL);
        needState(today - recalled.finalDay <= DAYS_TO_RECALL);
        needState(recalled.lastAnswerDay == NONE);
        recalled.lastAnswerDay = today + DAYS_TO_ANSWER;
        exchange.runQueues();
        return recalled.lastAnswerDay;
    }

    public int answer(int payment, boolean isYes)
            throws IndexOutOfBoundsException, IllegalStateException {
        Payment recalled = needPayment(payment);
        needState(recalled.lastAnswerDay != NONE && !recalled.isAnswered);
        needState(exchange.calendar.day <= recalled.lastAnswerDay);
        needState(!isYes || !exchange.register.isFull());
        recalled.isAnswered = true;
        int number = isYes ? exchange.bringIn(exchange.termsBack(recalled.terms)) : NONE;
        exchange.runQueues();
        return number;
    }

    // ---- days

    public int endDay() throws IllegalStateException {
        needState(exchange.calendar.day < LAST_DAY);
        int settled = exchange.closeDay();
        return settled + exchange.runQueues();
    }

    public int today() {
        return exchange.calendar.day;
    }

    // ---- what is asked

    public long account(int bank, int currency) throws IndexOutOfBoundsException {
        needPlace(bank, ACCOUNTS);
        needPlace(currency, CURRENCIES);
        return exchange.accounts.balanceOf(bank, currency);
    }

    public long accountAnew(int bank, int currency) throws IndexOutOfBoundsException {
        needPlace(bank, ACCOUNTS);
        needPlace(currency, CURRENCIES);
        return exchange.accounts.book.sumOf(bank, currency);
    }

    public long paid(int bank, int other, int currency) throws IndexOutOfBoundsException {
        needPlace(bank, BANKS);
        needPlace(other, BANKS);
        needPlace(currency, CURRENCIES);
        return exchange.accounts.paidOf(pairSlot(bank, other, currency));
    }

    public int payments() {
        return exchange.register.count();
    }

    public int stateOf(int payment) throws IndexOutOfBoundsException {
        return needPayment(payment).state;
    }

    public int queueAt(int bank, int currency, int place) throws IndexOutOfBoundsException {
        needPlace(bank, BANKS);
        needPlace(currency, CURRENCIES);
        if (place < 0) {
            throw new IndexOutOfBoundsException("a place is from 0");
        }
        return exchange.register.queuedAt(bank, currency, place);
    }

    public int entries() {
        return exchange.accounts.book.count();
    }

    public long entryAt(int entry, int what)
            throws IndexOutOfBoundsException, IllegalArgumentException {
        Entry found = exchange.accounts.book.find(entry);
        if (found == null) {
            throw new IndexOutOfBoundsException("no such entry");
        }
        needRange(what, 0, Entry.PARTS - 1);
        return found.part(what);
    }

    public int advice(int bank) throws IndexOutOfBoundsException {
        needPlace(bank, BANKS);
        return exchange.outages.isSet(bank) ? NONE : exchange.advices.takeNext(bank);
    }

    public int again(int bank, int from) throws IndexOutOfBoundsException, IllegalArgumentException {
        needPlace(bank, BANKS);
        needRange(from, 0, exchange.advices.mostTaken(bank));
        return exchange.advices.startFrom(bank, from);
    }

    // ---- what the face needs

    private static void needPlace(int place, int below) {
        if (place < 0 || place >= below) {
            throw new IndexOutOfBoundsException("there is none of this number");
        }
    }

    private static void needRange(int value, int least, int most) {
        if (value < least || value > most) {
            throw new IllegalArgumentException("out of range");
        }
    }

    private static void needTwoBanks(int bank, int other) {
        if (bank == other) {
            throw new IllegalArgumentException("the two banks are the same");
        }
    }

    private static void needState(boolean isSo) {
        if (!isSo) {
            throw new IllegalStateException("not as things stand");
        }
    }

    private Payment needPayment(int number) {
        Payment found = exchange.register.find(number);
        if (found == null) {
            throw new IndexOutOfBoundsException("no such payment");
        }
        return found;
    }

    private static int accountSlot(int bank, int currency) {
        return bank * CURRENCIES + currency;
    }

    private static int pairSlot(int bank, int other, int currency) {
        return (bank * BANKS + other) * CURRENCIES + currency;
    }

    /** Numbers in a row. It looks at each index itself, so that no user of it can be thrown out by one. */
    private static final class Row {
        private final long[] cells;

        Row(int length) {
            cells = new long[Math.max(length, 0)];
        }

        long at(int index) {
            return index >= 0 && index < cells.length ? cells[index] : 0;
        }

        boolean isSet(int index) {
            return index >= 0 && index < cells.length && cells[index] != 0;
        }

        void put(int index, long value) {
            if (index >= 0 && index < cells.length) {
                cells[index] = value;
            }
        }

        void add(int index, long value) {
            if (index >= 0 && index < cells.length) {
                cells[index] += value;
            }
        }

        void mark(int index, boolean is) {
            put(index, is ? 1 : 0);
        }

        void fill(long value) {
            for (int i = 0; i < cells.length; i++) {
                cells[i] = value;
            }
        }
    }

    /** What a message tells of a payment. */
    private static final class Terms {
        final int from;
        final int to;
        final int currency;
        final int amount;
        int payee;
        int rank;
        boolean isReal;
        int day;
        boolean stays;

        Terms(int from, int to, int currency, int amount) {
            this.from = from;
            this.to = to;
            this.currency = currency;
            this.amount = amount;
        }

        void arrange(int payee, int rank, boolean isReal, int day, boolean stays) {
            this.payee = payee;
            this.rank = rank;
            this.isReal = isReal;
            this.day = day;
            this.stays = stays;
        }

        boolean isLike(Terms other) {
            return from == other.from && to == other.to && currency == other.currency
                    && amount == other.amount && payee == other.payee && rank == other.rank
                    && isReal == other.isReal && day == other.day && stays == other.stays;
        }

        boolean isWayBackOf(Terms other) {
            return from == other.to && to == other.from;
        }
    }

    private static final class Payment {
        final int number;
        final Terms terms;
        int state = WAITING;
        Payment leg;
        /** The one that released it last, so that the second one can be told to be another one. */
        int officer = NONE;
        boolean isReleased;
        int finalDay = NONE;
        /** NONE until it is recalled. */
        int lastAnswerDay = NONE;
        boolean isAnswered;

        Payment(int number, Terms terms) {
            this.number = number;
            this.terms = terms;
        }

        boolean hasEnded() {
            return state == FINAL || state == RETURNED;
        }

        boolean isIn(int state, int currency) {
            return this.state == state && terms.currency == currency;
        }

        /** By the queue of a bank: falling ranks, of the same rising numbers. */
        boolean isBehind(Payment other) {
            return terms.rank < other.terms.rank
                    || terms.rank == other.terms.rank && number > other.number;
        }

        boolean canBeLegWith(Payment other) {
            return !hasEnded() && !other.hasEnded() && leg == null && other.leg == null
                    && terms.isReal && other.terms.isReal
                    && terms.currency != other.terms.currency && terms.isWayBackOf(other.terms);
        }

        /** Tells how many are RETURNED: a leg takes its other one with it. */
        int giveBack() {
            state = RETURNED;
            if (leg == null || leg.hasEnded()) {
                return 1;
            }
            leg.state = RETURNED;
            return 2;
        }
    }

    private static final class Calendar {
        int day;
        private final Row holidays = new Row(CURRENCIES * DAYS);

        void changeHoliday(int currency, int day, boolean is) {
            holidays.mark(currency * DAYS + day, is);
        }

        boolean isOpen(int currency, int day) {
            int weekday = day % 7;
            return weekday != 5 && weekday != 6 && !holidays.isSet(currency * DAYS + day);
        }

        boolean isOpenToday(int currency) {
            return isOpen(currency, day);
        }
    }

    private static final class Entry {
        static final int PARTS = 5;

        final int from;
        final int to;
        final int currency;
        final long amount;
        final int payment;

        Entry(int from, int to, int currency, long amount, int payment) {
            this.from = from;
            this.to = to;
            this.currency = currency;
            this.amount = amount;
            this.payment = payment;
        }

        long part(int what) {
            switch (what) {
                case 0: return from;
                case 1: return to;
                case 2: return currency;
                case 3: return amount;
                default: return payment;
            }
        }
    }

    private static final class Book {
        private final ArrayList<Entry> kept = new ArrayList<>();

        int count() {
            return kept.size();
        }

        Entry find(int entry) {
            return entry >= 0 && entry < kept.size() ? kept.get(entry) : null;
        }

        void keep(Entry entry) {
            if (kept.size() < MOST_ENTRIES) {
                kept.add(entry);
            }
        }

        long sumOf(int bank, int currency) {
            long sum = 0;
            for (int i = 0; i < kept.size(); i++) {
                Entry entry = kept.get(i);
                if (entry.currency == currency) {
                    sum += entry.to == bank ? entry.amount : 0;
                    sum -= entry.from == bank ? entry.amount : 0;
                }
            }
            return sum;
        }
    }

    /** Accounts with their lines, what was paid on the day with its limits, and the book of it all. */
    private static final class Accounts {
        final Book book = new Book();
        private final Row balances = new Row(ACCOUNTS * CURRENCIES);
        private final Row lines = new Row(BANKS * CURRENCIES);
        private final Row paidToday = new Row(BANKS * BANKS * CURRENCIES);
        private final Row limits = new Row(BANKS * BANKS * CURRENCIES);

        Accounts() {
            limits.fill(NONE);
        }

        long balanceOf(int bank, int currency) {
            return balances.at(accountSlot(bank, currency));
        }

        long paidOf(int pair) {
            return paidToday.at(pair);
        }

        int changeLine(int bank, int currency, int line) {
            int slot = accountSlot(bank, currency);
            int before = (int) lines.at(slot);
            lines.put(slot, line);
            return before;
        }

        int changeLimit(int pair, int limit) {
            int before = (int) limits.at(pair);
            limits.put(pair, limit);
            return before;
        }

        void move(int from, int to, int currency, long amount, int payment) {
            if (from != NONE) {
                balances.add(accountSlot(from, currency), -amount);
            }
            balances.add(accountSlot(to, currency), amount);
            book.keep(new Entry(from, to, currency, amount, payment));
        }

        void pay(Terms terms, int payment) {
            move(terms.from, terms.to, terms.currency, terms.amount, payment);
            paidToday.add(pairSlot(terms.from, terms.to, terms.currency), terms.amount);
            paidToday.add(pairSlot(terms.to, terms.from, terms.currency), -terms.amount);
        }

        /** An account that has no less may stand below its line: fees and a new line can put it there. */
        boolean isTooLowBy(int slot, long change) {
            return change < 0 && balances.at(slot) + change < -lines.at(slot);
        }

        boolean isPassedBy(int pair, long more) {
            long most = limits.at(pair);
            return more > 0 && most != NONE && paidToday.at(pair) + more > most;
        }

        void beginDay() {
            paidToday.fill(0);
        }
    }

    /** The payments by their numbers, and the messages that told them. */
    private static final class Register {
        private final ArrayList<Payment> all = new ArrayList<>();
        private final Row paymentsOfMessages = new Row(BANKS * MESSAGES);

        Register() {
            paymentsOfMessages.fill(NONE);
        }

        int count() {
            return all.size();
        }

        boolean isFull() {
            return all.size() >= MOST_PAYMENTS;
        }

        Payment find(int number) {
            return number >= 0 && number < all.size() ? all.get(number) : null;
        }

        Payment open(Terms terms) {
            Payment made = new Payment(all.size(), terms);
            all.add(made);
            return made;
        }

        Payment toldBy(int bank, int message) {
            return find((int) paymentsOfMessages.at(bank * MESSAGES + message));
        }

        void keepMessage(int bank, int message, int number) {
            paymentsOfMessages.put(bank * MESSAGES + message, number);
        }

        /** The first one of a queue that is behind another one of it, or with null the first one of all. */
        Payment nextQueued(int bank, int currency, Payment before) {
            Payment next = null;
            for (int i = 0; i < all.size(); i++) {
                Payment payment = all.get(i);
                if (payment.isIn(QUEUED, currency) && payment.terms.from == bank
                        && (before == null || payment.isBehind(before))
                        && (next == null || next.isBehind(payment))) {
                    next = payment;
                }
            }
            return next;
        }

        int queuedAt(int bank, int currency, int place) {
            Payment queued = nextQueued(bank, currency, null);
            for (int i = 0; i < Math.min(place, MOST_PAYMENTS) && queued != null; i++) {
                queued = nextQueued(bank, currency, queued);
            }
            return queued == null ? NONE : queued.number;
        }

        int feesOf(int bank, int currency, int day) {
            int fees = 0;
            for (int i = 0; i < all.size(); i++) {
                Payment payment = all.get(i);
                if (payment.isIn(FINAL, currency) && payment.terms.from == bank
                        && payment.finalDay == day) {
                    fees += payment.terms.isReal ? REAL_FEE : NET_FEE;
                }
            }
            return fees;
        }
    }

    /** What each bank gets told, how far it has taken it, and how far it ever had. */
    private static final class Advices {
        private final Row told = new Row(BANKS * MOST_PAYMENTS);
        private final Row counts = new Row(BANKS);
        private final Row taken = new Row(BANKS);
        private final Row most = new Row(BANKS);

        void tell(int bank, int payment) {
            if (counts.at(bank) < MOST_PAYMENTS) {
                told.put(bank * MOST_PAYMENTS + (int) counts.at(bank), payment);
                counts.add(bank, 1);
            }
        }

        int takeNext(int bank) {
            int next = (int) taken.at(bank);
            if (next >= counts.at(bank)) {
                return NONE;
            }
            taken.put(bank, next + 1);
            most.put(bank, Math.max(most.at(bank), next + 1));
            return (int) told.at(bank * MOST_PAYMENTS + next);
        }

        int mostTaken(int bank) {
            return (int) most.at(bank);
        }

        int startFrom(int bank, int from) {
            taken.put(bank, from);
            return (int) counts.at(bank) - from;
        }
    }

    /** A set of payments that is to settle at once, with what it would change. */
    private static final class Batch {
        private final Row members = new Row(MOST_PAYMENTS);
        private final Row changes = new Row(ACCOUNTS * CURRENCIES);
        private final Row flows = new Row(BANKS * BANKS * CURRENCIES);

        void clear() {
            members.fill(0);
            changes.fill(0);
            flows.fill(0);
        }

        boolean has(Payment payment) {
            return members.isSet(payment.number);
        }

        void put(Payment payment) {
            members.mark(payment.number, true);
            count(payment.terms, payment.terms.amount);
        }

        void drop(Payment payment) {
            members.mark(payment.number, false);
            count(payment.terms, -payment.terms.amount);
        }

        private void count(Terms terms, long amount) {
            changes.add(accountSlot(terms.from, terms.currency), -amount);
            changes.add(accountSlot(terms.to, terms.currency), amount);
            flows.add(pairSlot(terms.from, terms.to, terms.currency), amount);
            flows.add(pairSlot(terms.to, terms.from, terms.currency), -amount);
        }

        /** The lowest bank whose account would be too far below 0. */
        int lowestTooLow(Accounts accounts, int currency) {
            for (int bank = 0; bank < BANKS; bank++) {
                int slot = accountSlot(bank, currency);
                if (accounts.isTooLowBy(slot, changes.at(slot))) {
                    return bank;
                }
            }
            return NONE;
        }

        boolean passesLimit(Accounts accounts, int bank, int other, int currency) {
            int pair = pairSlot(bank, other, currency);
            return accounts.isPassedBy(pair, flows.at(pair));
        }

        boolean isWithinBounds(Accounts accounts, int currency) {
            if (lowestTooLow(accounts, currency) != NONE) {
                return false;
            }
            for (int bank = 0; bank < BANKS; bank++) {
                for (int other = 0; other < BANKS; other++) {
                    if (passesLimit(accounts, bank, other, currency)) {
                        return false;
                    }
                }
            }
            return true;
        }
    }

    /** All that the switch holds, and how payments go through it. */
    private static final class Exchange {
        final Calendar calendar = new Calendar();
        final Accounts accounts = new Accounts();
        final Register register = new Register();
        final Advices advices = new Advices();
        final Row outages = new Row(BANKS);
        final Row listed = new Row(NAMES);
        int doubles;
        private final Batch batch = new Batch();

        int bringIn(Terms terms) {
            Payment payment = register.open(terms);
            if (terms.day <= calendar.day && calendar.isOpenToday(terms.currency)) {
                letEnter(payment);
            }
            return payment.number;
        }

        Terms termsBack(Terms terms) {
            Terms back = new Terms(terms.to, terms.from, terms.currency, terms.amount);
            back.arrange(0, TOP_RANK, true, calendar.day, true);
            return back;
        }

        void letEnter(Payment payment) {
            if (listed.isSet(payment.terms.payee) && !payment.isReleased) {
                payment.state = HELD;
            } else {
                payment.state = payment.terms.isReal ? QUEUED : NETTED;
            }
        }

        int holdPaymentsFor(int name) {
            int held = 0;
            for (int i = 0; i < register.count(); i++) {
                Payment payment = register.find(i);
                if (payment != null && payment.terms.payee == name && !payment.isReleased
                        && (payment.state == QUEUED || payment.state == NETTED)) {
                    payment.state = HELD;
                    held++;
                }
            }
            return held;
        }

        /** Tells how many became FINAL. Each round but the last settles one, so the rounds end. */
        int runQueues() {
            int settled = 0;
            for (int round = 0; round <= MOST_PAYMENTS; round++) {
                int before = settled;
                for (int currency = 0; currency < CURRENCIES; currency++) {
                    for (int bank = 0; bank < BANKS; bank++) {
                        settled += settleFirst(bank, currency);
                    }
                }
                if (settled == before) {
                    return settled;
                }
            }
            return settled;
        }

        private int settleFirst(int bank, int currency) {
            Payment first = register.nextQueued(bank, currency, null);
            if (first == null || !mayMove(first)) {
                return 0;
            }
            batch.clear();
            batch.put(first);
            Payment leg = first.leg;
            if (leg != null) {
                if (leg.state != QUEUED || !mayMove(leg)) {
                    return 0;
                }
                batch.put(leg);
                if (!batch.isWithinBounds(accounts, leg.terms.currency)) {
                    return 0;
                }
            }
            return batch.isWithinBounds(accounts, currency) ? settleBatch() : 0;
        }

        private boolean mayMove(Payment payment) {
            return calendar.isOpenToday(payment.terms.currency)
                    && !outages.isSet(payment.terms.from) && !outages.isSet(payment.terms.to);
        }

        /** Of the payments in a state, NETTED or QUEUED, settles what is left when the rest is taken out. */
        int settleMost(int currency, int state) {
            batch.clear();
            for (int i = 0; i < register.count(); i++) {
                Payment payment = register.find(i);
                if (payment != null && payment.isIn(state, currency) && payment.leg == null
                        && mayMove(payment)) {
                    batch.put(payment);
                }
            }
            for (int i = 0; i < MOST_PAYMENTS; i++) {
                Payment hindrance = nextToTakeOut(currency, state == QUEUED);
                if (hindrance == null) {
                    break;
                }
                batch.drop(hindrance);
            }
            return settleBatch();
        }

        private Payment nextToTakeOut(int currency, boolean isByQueue) {
            int low = batch.lowestTooLow(accounts, currency);
            if (low != NONE) {
                return lastInBatch(low, NONE, isByQueue);
            }
            for (int bank = 0; bank < BANKS; bank++) {
                for (int other = 0; other < BANKS; other++) {
                    if (batch.passesLimit(accounts, bank, other, currency)) {
                        return lastInBatch(bank, other, isByQueue);
                    }
                }
            }
            return null;
        }

        /** The last one from a bank, to another one or, with NONE, to any, by its queue or by numbers. */
        private Payment lastInBatch(int bank, int other, boolean isByQueue) {
            Payment last = null;
            for (int i = 0; i < register.count(); i++) {
                Payment payment = register.find(i);
                if (payment != null && batch.has(payment) && payment.terms.from == bank
                        && (other == NONE || payment.terms.to == other)
                        && (last == null || !isByQueue || payment.isBehind(last))) {
                    last = payment;
                }
            }
            return last;
        }

        private int settleBatch() {
            int settled = 0;
            for (int i = 0; i < register.count(); i++) {
                Payment payment = register.find(i);
                if (payment != null && batch.has(payment)) {
                    payment.state = FINAL;
                    payment.finalDay = calendar.day;
                    accounts.pay(payment.terms, payment.number);
                    advices.tell(payment.terms.to, payment.number);
                    settled++;
                }
            }
            return settled;
        }

        /** Tells how many became FINAL in the cut-offs. The queues of the new day are still to be run. */
        int closeDay() {
            int settled = 0;
            for (int currency = 0; currency < CURRENCIES; currency++) {
                settled += settleMost(currency, NETTED);
            }
            giveBackWhatMayNotStay();
            chargeBanks();
            calendar.day++;
            accounts.beginDay();
            letWaitingEnter();
            return settled;
        }

        private void giveBackWhatMayNotStay() {
            for (int i = 0; i < register.count(); i++) {
                Payment payment = register.find(i);
                if (payment != null && !payment.terms.stays
                        && (payment.state == QUEUED || payment.state == NETTED)
                        && calendar.isOpenToday(payment.terms.currency)) {
                    payment.giveBack();
                }
            }
        }

        private void chargeBanks() {
            for (int bank = 0; bank < BANKS; bank++) {
                for (int currency = 0; currency < CURRENCIES; currency++) {
                    long below = Math.max(-accounts.balanceOf(bank, currency), 0);
                    charge(bank, currency, register.feesOf(bank, currency, calendar.day));
                    charge(bank, currency, (below + 99) / 100);
                }
            }
        }

        private void charge(int bank, int currency, long amount) {
            if (amount > 0) {
                accounts.move(bank, SWITCH, currency, amount, NONE);
            }
        }

        private void letWaitingEnter() {
            for (int i = 0; i < register.count(); i++) {
                Payment payment = register.find(i);
                if (payment != null && payment.state == WAITING && payment.terms.day <= calendar.day
                        && calendar.isOpenToday(payment.terms.currency)) {
                    letEnter(payment);
                }
            }
        }
    }
}
