import java.util.ArrayList;
import java.util.List;
import java.util.function.LongSupplier;

/** Many runs of calls, drawn from a counted row of numbers, on the program and on the Model: all answers are alike. */
public final class RandomRunsTest {
    private static final int RUNS = 600;
    private static final int CROWDED_RUNS = 3000;
    private static final long THROWS_INDEX = Long.MIN_VALUE;
    private static final long THROWS_ARGUMENT = Long.MIN_VALUE + 1;
    private static final long THROWS_STATE = Long.MIN_VALUE + 2;

    private long seed;
    private MillstreamPayments x;
    private Model model;
    private final List<Model.Message> sent = new ArrayList<>();
    private int banks;
    private int amounts;
    private int wrongs;

    public static void main(String[] args) {
        for (int run = 0; run < RUNS; run++) {
            new RandomRunsTest().oneRun(run);
        }
        for (int run = 0; run < CROWDED_RUNS; run++) {
            new RandomRunsTest().crowdedRun(run);
        }
        Checks.end();
    }

    private int draw(int below) {
        seed = seed * 6364136223846793005L + 1442695040888963407L;
        return (int) ((seed >>> 33) % below);
    }

    private boolean drawOneOf(int many) {
        return draw(many) == 0;
    }

    /** Mostly a number that there is, at times one beyond an end. */
    private int place(int below) {
        return drawOneOf(60) ? (drawOneOf(2) ? -1 : below) : draw(Math.max(below, 1));
    }

    private void oneRun(int run) {
        seed = run * 7919L + 1;
        draw(2);
        x = new MillstreamPayments();
        model = new Model();
        banks = 2 + draw(5);
        amounts = drawOneOf(2) ? 20 : 300;
        int calls = 60 + draw(300);
        for (int call = 0; call < calls && wrongs == 0; call++) {
            oneCall("run " + run + " call " + call + " ");
            same("run " + run + " after call " + call);
        }
        drainAdvices("run " + run);
    }

    /** Many payments and limits at once, so that sets have much to take out. */
    private void crowdedRun(int run) {
        seed = run * 104729L + 3;
        draw(2);
        x = new MillstreamPayments();
        model = new Model();
        banks = 3 + draw(4);
        String what = "crowded run " + run;
        boolean isReal = drawOneOf(2);
        for (int bank = 0; bank < banks; bank++) {
            int line = draw(isReal ? 30 : 60);
            x.line(bank, 0, line);
            model.line(bank, 0, line);
            for (int other = 0; other < banks; other++) {
                int limit = draw(40);
                if (other != bank && drawOneOf(2)) {
                    x.limit(bank, other, 0, limit);
                    model.limit(bank, other, 0, limit);
                }
            }
        }
        int many = 10 + draw(30);
        for (int i = 0; i < many; i++) {
            int bank = draw(banks);
            int to = (bank + 1 + draw(banks - 1)) % banks;
            Model.Message m = new Model.Message(bank, i, to, 0, 1 + draw(60), 1, draw(3), isReal, 0, true);
            both(what + " " + m, () -> x.send(m.bank(), m.message(), m.to(), m.currency(), m.amount(), m.payee(),
                    m.rank(), m.isReal(), m.day(), m.stays()), () -> model.send(m));
        }
        both(what + " offset", () -> x.offset(0), () -> model.offset(0));
        both(what + " endDay", x::endDay, model::endDay);
        same(what);
    }

    private void same(String what) {
        for (int bank = 0; bank < 7; bank++) {
            for (int currency = 0; currency < 3; currency++) {
                long want = model.account(bank, currency);
                compare(what + " account", x.account(bank, currency), want);
                compare(what + " accountAnew", x.accountAnew(bank, currency), want);
            }
        }
        compare(what + " today", x.today(), model.today);
        compare(what + " doubles", x.doubles(), model.doubles);
        compare(what + " payments", x.payments(), model.pays.size());
        compare(what + " entries", x.entries(), model.book.size());
        for (int i = 0; i < model.pays.size(); i++) {
            compare(what + " stateOf " + i, x.stateOf(i), model.stateOf(i));
        }
    }

    private void drainAdvices(String run) {
        for (int bank = 0; bank < 6; bank++) {
            compare(run + " not out", x.out(bank, false) ? 1 : 0, model.out(bank, false) ? 1 : 0);
        }
        for (int bank = 0; bank < 6; bank++) {
            for (int i = 0; i < 62; i++) {
                compare(run + " advice " + bank, x.advice(bank), model.advice(bank));
            }
        }
        for (int i = 0; i < model.book.size(); i++) {
            for (int what = 0; what < 5; what++) {
                compare(run + " entryAt " + i, x.entryAt(i, what), model.entryAt(i, what));
            }
        }
    }

    private void compare(String what, long got, long want) {
        Checks.due(what, got, want);
        wrongs += got == want ? 0 : 1;
    }

    private void both(String what, LongSupplier program, LongSupplier document) {
        compare(what, answer(program), answer(document));
    }

    private static long answer(LongSupplier call) {
        try {
            return call.getAsLong();
        } catch (IndexOutOfBoundsException e) {
            return THROWS_INDEX;
        } catch (IllegalArgumentException e) {
            return THROWS_ARGUMENT;
        } catch (IllegalStateException e) {
            return THROWS_STATE;
        }
    }

    private void oneCall(String what) {
        int kind = draw(100);
        if (kind < 38) {
            callSend(what + "send");
        } else if (kind < 58) {
            callBank(what + "bank ");
        } else if (kind < 84) {
            callPayment(what + "payment ");
        } else if (kind < 89) {
            both(what + "endDay", x::endDay, model::endDay);
        } else {
            callQuestion(what + "question ");
        }
    }

    private void callSend(String what) {
        Model.Message m = sent.isEmpty() || !drawOneOf(8) ? drawMessage() : sent.get(draw(sent.size()));
        if (drawOneOf(30)) {
            m = new Model.Message(m.bank(), m.message(), m.to(), m.currency(), m.amount(), m.payee(), m.rank(),
                    m.isReal(), m.day(), !m.stays());
        }
        sent.add(m);
        Model.Message n = m;
        both(what + " " + m, () -> x.send(n.bank(), n.message(), n.to(), n.currency(), n.amount(), n.payee(),
                n.rank(), n.isReal(), n.day(), n.stays()), () -> model.send(n));
    }

    private Model.Message drawMessage() {
        int bank = draw(banks);
        int to = drawOneOf(60) ? draw(banks) : (bank + 1 + draw(banks - 1)) % banks;
        int day = drawOneOf(5) ? model.today + draw(4) : Math.max(0, model.today - draw(2));
        return new Model.Message(drawOneOf(80) ? -1 : bank, drawOneOf(80) ? 100 : draw(100), to,
                drawOneOf(80) ? 3 : drawOneOf(3) ? draw(3) : 0,
                drawOneOf(80) ? 0 : 1 + draw(amounts), drawOneOf(80) ? 20 : draw(8),
                drawOneOf(80) ? 3 : draw(3), !drawOneOf(3), drawOneOf(80) ? 1000 : day, drawOneOf(2));
    }

    private void callBank(String what) {
        int bank = drawOneOf(60) ? place(6) : draw(banks);
        int other = drawOneOf(60) ? place(6) : draw(banks);
        int currency = drawOneOf(2) ? 0 : place(3);
        boolean is = drawOneOf(2);
        int kind = draw(20);
        if (kind < 6) {
            int amount = drawOneOf(50) ? 1000001 * draw(2) : 1 + draw(amounts);
            both(what + "fund", () -> x.fund(bank, currency, amount), () -> model.fund(bank, currency, amount));
        } else if (kind < 9) {
            int line = drawOneOf(50) ? 1000001 : draw(amounts * 2) - drawTinyBelow();
            both(what + "line", () -> x.line(bank, currency, line), () -> model.line(bank, currency, line));
        } else if (kind < 13) {
            int limit = drawOneOf(3) ? -1 : drawOneOf(50) ? -2 : draw(amounts * 2);
            both(what + "limit", () -> x.limit(bank, other, currency, limit),
                    () -> model.limit(bank, other, currency, limit));
        } else if (kind < 15) {
            boolean isOut = drawOneOf(3);
            both(what + "out", () -> x.out(bank, isOut) ? 1 : 0, () -> model.out(bank, isOut) ? 1 : 0);
        } else if (kind < 17) {
            int day = drawOneOf(50) ? (drawOneOf(2) ? -1 : 1000) : model.today + draw(3);
            both(what + "holiday", () -> x.holiday(currency, day, is) ? 1 : 0,
                    () -> model.holiday(currency, day, is) ? 1 : 0);
        } else {
            int name = drawOneOf(30) ? place(20) : draw(8);
            boolean isListed = drawOneOf(2);
            both(what + "list", () -> x.list(name, isListed), () -> model.list(name, isListed));
        }
    }

    private int drawTinyBelow() {
        return drawOneOf(50) ? 1000 : 0;
    }

    private void callPayment(String what) {
        int payment = place(model.pays.size());
        int officer = place(4);
        boolean isYes = !drawOneOf(3);
        int kind = draw(26);
        if (kind < 5) {
            callJoin(what + "join");
        } else if (kind < 7) {
            both(what + "withdraw", () -> x.withdraw(payment), () -> model.withdraw(payment));
        } else if (kind < 13) {
            int held = drawIn(Model.HELD, payment);
            both(what + "release", () -> x.release(held, officer) ? 1 : 0,
                    () -> model.release(held, officer) ? 1 : 0);
        } else if (kind < 14) {
            int held = drawIn(Model.HELD, payment);
            both(what + "refuse", () -> x.refuse(held), () -> model.refuse(held));
        } else if (kind < 18) {
            int currency = drawOneOf(2) ? 0 : place(3);
            both(what + "offset", () -> x.offset(currency), () -> model.offset(currency));
        } else if (kind < 22) {
            int done = drawIn(Model.FINAL, payment);
            both(what + "recall", () -> x.recall(done), () -> model.recall(done));
        } else {
            int recalled = drawRecalled(payment);
            both(what + "answer", () -> x.answer(recalled, isYes), () -> model.answer(recalled, isYes));
        }
    }

    private int drawIn(int state, int otherwise) {
        List<Integer> all = new ArrayList<>();
        for (Model.Pay p : model.pays) {
            if (p.state == state) {
                all.add(p.number);
            }
        }
        return all.isEmpty() || drawOneOf(10) ? otherwise : all.get(draw(all.size()));
    }

    private int drawRecalled(int otherwise) {
        List<Integer> all = new ArrayList<>();
        for (Model.Pay p : model.pays) {
            if (p.recalledOn != null) {
                all.add(p.number);
            }
        }
        return all.isEmpty() || drawOneOf(10) ? otherwise : all.get(draw(all.size()));
    }

    /** Often a pair that can be joined, as two drawn ones seldom can. */
    private void callJoin(String what) {
        int one = place(model.pays.size());
        int two = place(model.pays.size());
        for (Model.Pay p : model.pays) {
            for (Model.Pay q : model.pays) {
                boolean fits = !p.ended() && !q.ended() && p.told.bank() == q.told.to()
                        && p.told.to() == q.told.bank() && p.told.currency() != q.told.currency();
                if (fits && drawOneOf(3)) {
                    one = p.number;
                    two = q.number;
                }
            }
        }
        int a = one;
        int b = two;
        both(what + " " + a + " " + b, () -> {
            x.join(a, b);
            return 0;
        }, () -> {
            model.join(a, b);
            return 0;
        });
    }

    private void callQuestion(String what) {
        int bank = place(6);
        int other = place(6);
        int currency = place(3);
        int at = place(5);
        int entry = place(model.book.size());
        switch (draw(9)) {
            case 0 -> both(what + "account", () -> x.account(bank + 1, currency),
                    () -> model.account(bank + 1, currency));
            case 1 -> both(what + "accountAnew", () -> x.accountAnew(bank, currency),
                    () -> model.account(bank, currency));
            case 2 -> both(what + "paid", () -> x.paid(bank, other, currency),
                    () -> model.paid(bank, other, currency));
            case 3 -> both(what + "queueAt", () -> x.queueAt(bank, currency, at),
                    () -> model.queueAt(bank, currency, at));
            case 4 -> both(what + "entryAt", () -> x.entryAt(entry, at), () -> model.entryAt(entry, at));
            case 5, 6, 7 -> both(what + "advice", () -> x.advice(bank), () -> model.advice(bank));
            default -> both(what + "again", () -> x.again(bank, at), () -> model.again(bank, at));
        }
    }
}
