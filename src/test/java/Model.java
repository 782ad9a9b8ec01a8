import java.util.ArrayList;
import java.util.Comparator;
import java.util.HashMap;
import java.util.List;
import java.util.Map;
import java.util.Set;
import java.util.TreeSet;

/**
 * The document once more, as slowly and as literally as it reads: what can be told from the book is
 * summed up anew for each question. RandomRunsTest holds the program against it.
 */
final class Model {
    static final int WAITING = 0, HELD = 1, QUEUED = 2, NETTED = 3, FINAL = 4, RETURNED = 5;

    record Message(int bank, int message, int to, int currency, int amount, int payee, int rank,
            boolean isReal, int day, boolean stays) {
    }

    static final class Pay {
        int number;
        Message told;
        int state;
        Set<Integer> officers = new TreeSet<>();
        Integer joinedTo;
        Integer finalOn;
        Integer recalledOn;
        boolean answered;

        boolean ended() {
            return state == FINAL || state == RETURNED;
        }
    }

    record Entry(int from, int to, int currency, long amount, int payment, int day) {
    }

    int today = 0;
    int doubles = 0;
    final List<Pay> pays = new ArrayList<>();
    final List<Entry> book = new ArrayList<>();
    final Map<List<Integer>, Integer> lines = new HashMap<>();
    final Map<List<Integer>, Integer> limits = new HashMap<>();
    final Map<List<Integer>, Integer> messages = new HashMap<>();
    final Set<Integer> outs = new TreeSet<>();
    final Set<Integer> names = new TreeSet<>();
    final Set<List<Integer>> holidays = new java.util.HashSet<>();
    final Map<Integer, List<Integer>> advices = new HashMap<>();
    final Map<Integer, Integer> cursors = new HashMap<>();
    final Map<Integer, Integer> furthest = new HashMap<>();

    // ---- checks

    private static void index(boolean ok) {
        if (!ok) {
            throw new IndexOutOfBoundsException();
        }
    }

    private static void argument(boolean ok) {
        if (!ok) {
            throw new IllegalArgumentException();
        }
    }

    private static void state(boolean ok) {
        if (!ok) {
            throw new IllegalStateException();
        }
    }

    private static boolean in(int value, int least, int most) {
        return least <= value && value <= most;
    }

    private Pay pay(int number) {
        index(in(number, 0, pays.size() - 1));
        return pays.get(number);
    }

    // ---- banks

    long fund(int bank, int currency, int amount) {
        index(in(bank, 0, 5) && in(currency, 0, 2));
        argument(in(amount, 1, 1000000));
        book.add(new Entry(-1, bank, currency, amount, -1, today));
        run();
        return account(bank, currency);
    }

    int line(int bank, int currency, int line) {
        index(in(bank, 0, 5) && in(currency, 0, 2));
        argument(in(line, 0, 1000000));
        Integer before = lines.put(List.of(bank, currency), line);
        run();
        return before == null ? 0 : before;
    }

    int limit(int bank, int other, int currency, int limit) {
        index(in(bank, 0, 5) && in(other, 0, 5) && in(currency, 0, 2));
        argument(bank != other && in(limit, -1, 1000000));
        List<Integer> key = List.of(bank, other, currency);
        Integer before = limit == -1 ? limits.remove(key) : limits.put(key, limit);
        run();
        return before == null ? -1 : before;
    }

    boolean out(int bank, boolean is) {
        index(in(bank, 0, 5));
        boolean was = outs.contains(bank);
        if (is) {
            outs.add(bank);
        } else {
            outs.remove(bank);
        }
        run();
        return was;
    }

    boolean holiday(int currency, int day, boolean is) {
        index(in(currency, 0, 2));
        argument(in(day, 0, 999));
        if (is) {
            holidays.add(List.of(currency, day));
        } else {
            holidays.remove(List.of(currency, day));
        }
        run();
        return open(currency, day);
    }

    int list(int name, boolean is) {
        index(in(name, 0, 19));
        int held = 0;
        if (is) {
            names.add(name);
            for (Pay p : pays) {
                if (p.told.payee() == name && (p.state == QUEUED || p.state == NETTED) && p.officers.size() < 2) {
                    p.state = HELD;
                    held++;
                }
            }
        } else {
            names.remove(name);
        }
        run();
        return held;
    }

    // ---- payments

    int send(Message m) {
        index(in(m.bank, 0, 5) && in(m.to, 0, 5) && in(m.message, 0, 99) && in(m.currency, 0, 2)
                && in(m.payee, 0, 19));
        argument(m.bank != m.to && in(m.amount, 1, 1000000) && in(m.rank, 0, 2) && in(m.day, 0, 999));
        state(!outs.contains(m.bank));
        Integer known = messages.get(List.of(m.bank, m.message));
        if (known != null) {
            state(pays.get(known).told.equals(m));
            doubles++;
            return known;
        }
        state(pays.size() < 60);
        int number = come(m);
        messages.put(List.of(m.bank, m.message), number);
        run();
        return number;
    }

    private int come(Message m) {
        Pay p = new Pay();
        p.number = pays.size();
        p.told = m;
        pays.add(p);
        if (m.day > today || !open(m.currency, today)) {
            p.state = WAITING;
        } else {
            enter(p);
        }
        return p.number;
    }

    private void enter(Pay p) {
        boolean stopped = names.contains(p.told.payee) && p.officers.size() < 2;
        p.state = stopped ? HELD : p.told.isReal ? QUEUED : NETTED;
    }

    void join(int payment, int other) {
        Pay a = pay(payment);
        Pay b = pay(other);
        state(!a.ended() && !b.ended());
        state(a.told.isReal && b.told.isReal);
        state(a.told.currency != b.told.currency);
        state(a.told.bank == b.told.to && a.told.to == b.told.bank);
        state(a.joinedTo == null && b.joinedTo == null);
        a.joinedTo = other;
        b.joinedTo = payment;
        run();
    }

    private int giveBack(Pay p) {
        p.state = RETURNED;
        if (p.joinedTo == null) {
            return 1;
        }
        pays.get(p.joinedTo).state = RETURNED;
        return 2;
    }

    int withdraw(int payment) {
        Pay p = pay(payment);
        state(!p.ended());
        int returned = giveBack(p);
        run();
        return returned;
    }

    boolean release(int payment, int officer) {
        Pay p = pay(payment);
        index(in(officer, 0, 3));
        state(p.state == HELD && !p.officers.contains(officer));
        p.officers.add(officer);
        boolean enters = p.officers.size() == 2;
        if (enters) {
            enter(p);
        }
        run();
        return enters;
    }

    int refuse(int payment) {
        Pay p = pay(payment);
        state(p.state == HELD);
        int returned = giveBack(p);
        run();
        return returned;
    }

    int recall(int payment) {
        Pay p = pay(payment);
        state(p.state == FINAL && today <= p.finalOn + 3 && p.recalledOn == null);
        p.recalledOn = today;
        return today + 2;
    }

    int answer(int payment, boolean isYes) {
        Pay p = pay(payment);
        state(p.recalledOn != null && !p.answered && today <= p.recalledOn + 2);
        state(!isYes || pays.size() < 60);
        p.answered = true;
        int number = -1;
        if (isYes) {
            number = come(new Message(p.told.to, -1, p.told.bank, p.told.currency, p.told.amount, 0, 2,
                    true, today, true));
        }
        run();
        return number;
    }

    // ---- settling

    boolean open(int currency, int day) {
        return day % 7 < 5 && !holidays.contains(List.of(currency, day));
    }

    private boolean banksAreIn(Pay p) {
        return !outs.contains(p.told.bank) && !outs.contains(p.told.to);
    }

    private long changeOf(List<Pay> set, int bank, int currency) {
        long change = 0;
        for (Pay p : set) {
            if (p.told.currency == currency) {
                change += (p.told.to == bank ? p.told.amount : 0) - (p.told.bank == bank ? p.told.amount : 0);
            }
        }
        return change;
    }

    private boolean tooLow(List<Pay> set, int bank, int currency) {
        long change = changeOf(set, bank, currency);
        return change < 0
                && account(bank, currency) + change < -lines.getOrDefault(List.of(bank, currency), 0);
    }

    private boolean passed(List<Pay> set, int bank, int other, int currency) {
        Integer limit = limits.get(List.of(bank, other, currency));
        if (limit == null) {
            return false;
        }
        long more = 0;
        for (Pay p : set) {
            if (p.told.currency == currency && p.told.bank == bank && p.told.to == other) {
                more += p.told.amount;
            }
            if (p.told.currency == currency && p.told.bank == other && p.told.to == bank) {
                more -= p.told.amount;
            }
        }
        return more > 0 && paid(bank, other, currency) + more > limit;
    }

    private boolean canSettle(List<Pay> set) {
        for (Pay p : set) {
            if (!open(p.told.currency, today) || !banksAreIn(p)) {
                return false;
            }
            if (tooLow(set, p.told.bank, p.told.currency)
                    || passed(set, p.told.bank, p.told.to, p.told.currency)) {
                return false;
            }
        }
        return true;
    }

    private void settle(List<Pay> set) {
        set.sort(Comparator.comparingInt(p -> p.number));
        for (Pay p : set) {
            p.state = FINAL;
            p.finalOn = today;
            book.add(new Entry(p.told.bank, p.told.to, p.told.currency, p.told.amount, p.number, today));
            advices.computeIfAbsent(p.told.to, bank -> new ArrayList<>()).add(p.number);
        }
    }

    private List<Pay> queue(int bank, int currency) {
        List<Pay> queue = new ArrayList<>();
        for (Pay p : pays) {
            if (p.state == QUEUED && p.told.bank == bank && p.told.currency == currency) {
                queue.add(p);
            }
        }
        // The sort is stable: of the same rank the numbers go on rising.
        queue.sort(Comparator.comparingInt(p -> -p.told.rank));
        return queue;
    }

    private int run() {
        int settled = 0;
        boolean again = true;
        while (again) {
            again = false;
            for (int currency = 0; currency < 3; currency++) {
                for (int bank = 0; bank < 6; bank++) {
                    List<Pay> queue = queue(bank, currency);
                    List<Pay> set = new ArrayList<>(queue.subList(0, Math.min(1, queue.size())));
                    if (!set.isEmpty() && set.get(0).joinedTo != null) {
                        set.add(pays.get(set.get(0).joinedTo));
                    }
                    boolean allQueued = set.stream().allMatch(p -> p.state == QUEUED);
                    if (!set.isEmpty() && allQueued && canSettle(set)) {
                        settle(set);
                        settled += set.size();
                        again = true;
                    }
                }
            }
        }
        return settled;
    }

    int offset(int currency) {
        index(in(currency, 0, 2));
        List<Pay> set = new ArrayList<>();
        for (int bank = 0; bank < 6 && open(currency, today); bank++) {
            for (Pay p : queue(bank, currency)) {
                if (p.joinedTo == null && banksAreIn(p)) {
                    set.add(p);
                }
            }
        }
        takeOutAndSettle(set, currency);
        int settled = set.size();
        run();
        return settled;
    }

    /** The set comes in the order of which the last one is taken out first. */
    private void takeOutAndSettle(List<Pay> set, int currency) {
        Pay next = toTakeOut(set, currency);
        while (next != null) {
            set.remove(next);
            next = toTakeOut(set, currency);
        }
        settle(set);
    }

    private Pay toTakeOut(List<Pay> set, int currency) {
        for (int bank = 0; bank < 6; bank++) {
            if (tooLow(set, bank, currency)) {
                return last(set, bank, -1);
            }
        }
        for (int bank = 0; bank < 6; bank++) {
            for (int other = 0; other < 6; other++) {
                if (passed(set, bank, other, currency)) {
                    return last(set, bank, other);
                }
            }
        }
        return null;
    }

    private Pay last(List<Pay> set, int bank, int other) {
        Pay last = null;
        for (Pay p : set) {
            if (p.told.bank == bank && (other == -1 || p.told.to == other)) {
                last = p;
            }
        }
        return last;
    }

    // ---- days

    int endDay() {
        state(today != 998);
        int settled = 0;
        for (int currency = 0; currency < 3; currency++) {
            if (open(currency, today)) {
                List<Pay> set = new ArrayList<>();
                for (Pay p : pays) {
                    if (p.state == NETTED && p.told.currency == currency && banksAreIn(p)) {
                        set.add(p);
                    }
                }
                takeOutAndSettle(set, currency);
                settled += set.size();
            }
        }
        for (Pay p : pays) {
            if ((p.state == QUEUED || p.state == NETTED) && !p.told.stays && open(p.told.currency, today)) {
                giveBack(p);
            }
        }
        charge();
        today++;
        for (Pay p : pays) {
            if (p.state == WAITING && p.told.day <= today && open(p.told.currency, today)) {
                enter(p);
            }
        }
        return settled + run();
    }

    private void charge() {
        for (int bank = 0; bank < 6; bank++) {
            for (int currency = 0; currency < 3; currency++) {
                long below = -account(bank, currency);
                int fees = 0;
                for (Pay p : pays) {
                    if (p.state == FINAL && p.finalOn == today && p.told.bank == bank
                            && p.told.currency == currency) {
                        fees += p.told.isReal ? 2 : 1;
                    }
                }
                long interest = 0;
                while (interest * 100 < below) {
                    interest++;
                }
                if (fees > 0) {
                    book.add(new Entry(bank, 6, currency, fees, -1, today));
                }
                if (interest > 0) {
                    book.add(new Entry(bank, 6, currency, interest, -1, today));
                }
            }
        }
    }

    // ---- what is asked

    long account(int bank, int currency) {
        index(in(bank, 0, 6) && in(currency, 0, 2));
        long sum = 0;
        for (Entry entry : book) {
            if (entry.currency == currency) {
                sum += (entry.to == bank ? entry.amount : 0) - (entry.from == bank ? entry.amount : 0);
            }
        }
        return sum;
    }

    long paid(int bank, int other, int currency) {
        index(in(bank, 0, 5) && in(other, 0, 5) && in(currency, 0, 2));
        long sum = 0;
        for (Entry entry : book) {
            if (entry.currency == currency && entry.day == today && entry.payment != -1) {
                sum += entry.from == bank && entry.to == other ? entry.amount : 0;
                sum -= entry.from == other && entry.to == bank ? entry.amount : 0;
            }
        }
        return sum;
    }

    int stateOf(int payment) {
        return pay(payment).state;
    }

    int queueAt(int bank, int currency, int place) {
        index(in(bank, 0, 5) && in(currency, 0, 2) && place >= 0);
        List<Pay> queue = queue(bank, currency);
        return place < queue.size() ? queue.get(place).number : -1;
    }

    long entryAt(int entry, int what) {
        index(in(entry, 0, book.size() - 1));
        argument(in(what, 0, 4));
        Entry e = book.get(entry);
        return new long[] {e.from, e.to, e.currency, e.amount, e.payment}[what];
    }

    int advice(int bank) {
        index(in(bank, 0, 5));
        List<Integer> all = advices.getOrDefault(bank, List.of());
        int next = cursors.getOrDefault(bank, 0);
        if (outs.contains(bank) || next >= all.size()) {
            return -1;
        }
        cursors.put(bank, next + 1);
        furthest.merge(bank, next + 1, Math::max);
        return all.get(next);
    }

    int again(int bank, int from) {
        index(in(bank, 0, 5));
        argument(in(from, 0, furthest.getOrDefault(bank, 0)));
        cursors.put(bank, from);
        return advices.getOrDefault(bank, List.of()).size() - from;
    }
}
