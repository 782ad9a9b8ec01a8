import java.util.function.LongSupplier;

/**
 * Runs of 400 calls of all kinds whose arguments are drawn from the ends of their ranges, at times from one
 * beyond or from far off, on the program and on the Model: all answers and exceptions are alike.
 */
public final class EdgeRunsTest {
    private static final int RUNS = 300;
    private static final int CALLS = 400;
    private static final int[] FAR = {Integer.MIN_VALUE, Integer.MAX_VALUE, -1000, 1 << 20};

    private final MillstreamPayments x = new MillstreamPayments();
    private final Model model = new Model();
    private long seed;
    private int wrongs;

    private EdgeRunsTest(int run) {
        seed = run * 15485863L + 11;
        draw(2);
    }

    public static void main(String[] args) {
        for (int run = 0; run < RUNS; run++) {
            EdgeRunsTest test = new EdgeRunsTest(run);
            for (int call = 0; call < CALLS && test.wrongs == 0; call++) {
                test.oneCall("run " + run + " call " + call + " ");
            }
            test.all("run " + run + " ");
        }
        Checks.end();
    }

    private int draw(int below) {
        seed = seed * 6364136223846793005L + 1442695040888963407L;
        return (int) ((seed >>> 33) % below);
    }

    /** One of the two ends or beside them; one call in fifty has one beyond an end, or far off. */
    private int edge(int least, int most) {
        if (draw(50) == 0) {
            int[] beyond = {least - 1, most + 1, FAR[draw(FAR.length)]};
            return beyond[draw(beyond.length)];
        }
        int[] ends = {least, Math.min(least + 1, most), Math.max(most - 1, least), most};
        return ends[draw(ends.length)];
    }

    private void both(String what, LongSupplier program, LongSupplier document) {
        long got = answer(program);
        long want = answer(document);
        Checks.due(what, got, want);
        wrongs += got == want ? 0 : 1;
    }

    private static long answer(LongSupplier call) {
        try {
            return call.getAsLong();
        } catch (IndexOutOfBoundsException e) {
            return Long.MIN_VALUE;
        } catch (IllegalArgumentException e) {
            return Long.MIN_VALUE + 1;
        } catch (IllegalStateException e) {
            return Long.MIN_VALUE + 2;
        }
    }

    private void oneCall(String what) {
        int kind = draw(30);
        if (kind < 8) {
            sends(what);
        } else if (kind < 14) {
            setsBanks(what, kind);
        } else if (kind < 21) {
            changesPayments(what, kind);
        } else if (kind == 21 && draw(3) == 0) {
            both(what + "endDay", x::endDay, model::endDay);
        } else {
            asks(what, kind);
        }
    }

    private void sends(String what) {
        int bank = edge(0, 5);
        Model.Message m = new Model.Message(bank, edge(draw(2) * 50, draw(2) * 49 + 50), edge(0, 5), edge(0, 2),
                draw(3) == 0 ? edge(1, 1000000) : edge(99, 101), edge(0, 19), edge(0, 2), draw(3) != 0,
                draw(3) == 0 ? edge(0, 999) : model.today + draw(2), draw(2) == 0);
        both(what + m, () -> x.send(m.bank(), m.message(), m.to(), m.currency(), m.amount(), m.payee(), m.rank(),
                m.isReal(), m.day(), m.stays()), () -> model.send(m));
        if (draw(3) == 0) {
            both(what + "again " + m, () -> x.send(m.bank(), m.message(), m.to(), m.currency(), m.amount(),
                    m.payee(), m.rank(), m.isReal(), m.day(), m.stays()), () -> model.send(m));
        }
    }

    private void setsBanks(String what, int kind) {
        int bank = edge(0, 5);
        int other = edge(0, 5);
        int currency = edge(0, 2);
        int amount = draw(3) == 0 ? edge(kind == 8 ? 1 : 0, 1000000) : edge(99, 101);
        boolean is = draw(4) == 0;
        int day = draw(2) == 0 ? edge(0, 999) : model.today + draw(2);
        switch (kind) {
            case 8 -> both(what + "fund", () -> x.fund(bank, currency, amount), () -> model.fund(bank, currency, amount));
            case 9 -> both(what + "line", () -> x.line(bank, currency, amount), () -> model.line(bank, currency, amount));
            case 10 -> {
                int limit = draw(3) == 0 ? edge(-1, 0) : amount;
                both(what + "limit", () -> x.limit(bank, other, currency, limit),
                        () -> model.limit(bank, other, currency, limit));
            }
            case 11 -> both(what + "out", () -> x.out(bank, is) ? 1 : 0, () -> model.out(bank, is) ? 1 : 0);
            case 12 -> both(what + "holiday", () -> x.holiday(currency, day, is) ? 1 : 0,
                    () -> model.holiday(currency, day, is) ? 1 : 0);
            default -> {
                int name = edge(0, 19);
                both(what + "list", () -> x.list(name, is), () -> model.list(name, is));
            }
        }
    }

    private void changesPayments(String what, int kind) {
        int most = Math.max(model.pays.size() - 1, 0);
        int payment = draw(2) == 0 ? edge(0, most) : draw(most + 1);
        int other = draw(2) == 0 ? edge(0, most) : draw(most + 1);
        int officer = edge(0, 3);
        int currency = edge(0, 2);
        boolean is = draw(2) == 0;
        switch (kind) {
            case 14 -> both(what + "join", () -> {
                x.join(payment, other);
                return 0;
            }, () -> {
                model.join(payment, other);
                return 0;
            });
            case 15 -> both(what + "withdraw", () -> x.withdraw(payment), () -> model.withdraw(payment));
            case 16 -> both(what + "release", () -> x.release(payment, officer) ? 1 : 0,
                    () -> model.release(payment, officer) ? 1 : 0);
            case 17 -> both(what + "refuse", () -> x.refuse(payment), () -> model.refuse(payment));
            case 18 -> both(what + "offset", () -> x.offset(currency), () -> model.offset(currency));
            case 19 -> both(what + "recall", () -> x.recall(payment), () -> model.recall(payment));
            default -> both(what + "answer", () -> x.answer(payment, is), () -> model.answer(payment, is));
        }
    }

    private void asks(String what, int kind) {
        int bank = edge(0, 5);
        int other = edge(0, 5);
        int account = edge(0, 6);
        int currency = edge(0, 2);
        int entry = edge(0, Math.max(model.book.size() - 1, 0));
        int part = edge(0, 4);
        int place = edge(0, 60);
        int from = edge(0, model.furthest.getOrDefault(bank, 0));
        int payment = edge(0, Math.max(model.pays.size() - 1, 0));
        switch (kind) {
            case 22 -> both(what + "account", () -> x.account(account, currency),
                    () -> model.account(account, currency));
            case 23 -> both(what + "accountAnew", () -> x.accountAnew(account, currency),
                    () -> model.account(account, currency));
            case 24 -> both(what + "paid", () -> x.paid(bank, other, currency), () -> model.paid(bank, other, currency));
            case 25 -> both(what + "stateOf", () -> x.stateOf(payment), () -> model.stateOf(payment));
            case 26 -> both(what + "queueAt", () -> x.queueAt(bank, currency, place),
                    () -> model.queueAt(bank, currency, place));
            case 27 -> both(what + "entryAt", () -> x.entryAt(entry, part), () -> model.entryAt(entry, part));
            case 28 -> both(what + "advice", () -> x.advice(bank), () -> model.advice(bank));
            default -> both(what + "again", () -> x.again(bank, from), () -> model.again(bank, from));
        }
    }

    /** All that can be asked at the end of a run. */
    private void all(String what) {
        both(what + "today", x::today, () -> model.today);
        both(what + "doubles", x::doubles, () -> model.doubles);
        both(what + "payments", x::payments, () -> model.pays.size());
        both(what + "entries", x::entries, () -> model.book.size());
        for (int i = 0; i < model.pays.size(); i++) {
            int payment = i;
            both(what + "stateOf " + i, () -> x.stateOf(payment), () -> model.stateOf(payment));
        }
        for (int i = 0; i < 21; i++) {
            int bank = i / 3;
            int currency = i % 3;
            both(what + "account", () -> x.account(bank, currency), () -> model.account(bank, currency));
            both(what + "accountAnew", () -> x.accountAnew(bank, currency), () -> model.account(bank, currency));
        }
        for (int i = 0; i < 6 * 62; i++) {
            int bank = i / 62;
            both(what + "advice", () -> x.advice(bank), () -> model.advice(bank));
        }
    }
}
