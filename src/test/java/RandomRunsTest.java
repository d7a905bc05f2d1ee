import java.util.function.ToIntFunction;

/**
 * Promises 1 to 25 together: long runs of mixed calls, each answer and exception compared with the
 * plain machine's. The runs are made by a fixed sequence of numbers, so they are always the same.
 * The questions between the calls of a run go beyond the 512 that the document promises answers for;
 * the program does not count its calls, so they may be asked.
 */
public final class RandomRunsTest {
    private static final int RUNS = 1500;
    private static final int CALLS = 512;
    private static final int BAD_STATE = -1001;
    private static final int BAD_ARGUMENT = -1002;
    private static final int UNSUPPORTED = -1003;
    private static final int NO_SUCH = -1004;

    private static long seed = 20261115L;
    private static final int[] statesSeen = new int[9];

    public static void main(String[] args) {
        for (int run = 0; run < RUNS; run++) {
            oneRun(run);
        }
        for (int state = 0; state < statesSeen.length; state++) {
            Check.due(21, "state " + state + " was come to in the runs", true, statesSeen[state] > 1000);
        }
        Check.finish();
    }

    private static int below(int n) {
        seed = seed * 6364136223846793005L + 1442695040888963407L;
        return (int) ((seed >>> 33) % n);
    }

    private static void oneRun(int run) {
        CashRecycler real = new CashRecycler();
        PlainMachine plain = new PlainMachine();
        for (int call = 0; call < CALLS; call++) {
            oneCall(run, call, real, plain);
            statesSeen[real.state()]++;
            if (call % 8 == 0) {
                compareAll(run, call, real, plain);
            }
        }
    }

    /** Mostly what leads on in the state the machine is in, so that all states are come to. */
    private static void oneCall(int run, int call, CashRecycler x, PlainMachine y) {
        int roll = below(100);
        if (roll < 12) {
            anyCall(run, call, x, y);
        } else if (roll < 14) {
            both(run, call, "power()", a -> a.power() ? 1 : 0, b -> b.power() ? 1 : 0, x, y);
        } else if (roll < 18) {
            int s = below(10);
            both(run, call, "stick(" + s + ")", a -> did(() -> a.stick(s)), b -> did(() -> b.stick(s)), x, y);
        } else if (roll < 45) {
            int n = below(8) == 0 ? 1 + below(100) : 1 + below(4);
            both(run, call, "step(" + n + ")", a -> a.step(n), b -> b.step(n), x, y);
        } else {
            leadOn(run, call, x, y);
        }
    }

    private static void leadOn(int run, int call, CashRecycler x, PlainMachine y) {
        switch (y.state()) {
            case Machines.IDLE:
                leadOnIdle(run, call, x, y);
                break;
            case Machines.ESCROWED:
                if (below(3) == 0) {
                    both(run, call, "giveBack()", a -> did(a::giveBack), b -> did(b::giveBack), x, y);
                } else {
                    both(run, call, "confirm()", a -> did(a::confirm), b -> did(b::confirm), x, y);
                }
                break;
            case Machines.JAMMED:
                leadOnJammed(run, call, x, y);
                break;
            case Machines.SERVICE:
                leadOnService(run, call, x, y);
                break;
            default:
                int kind = below(7);
                both(run, call, "verdict(" + kind + ")", a -> a.verdict(kind), b -> b.verdict(kind), x, y);
        }
    }

    private static void leadOnIdle(int run, int call, CashRecycler x, PlainMachine y) {
        switch (below(6)) {
            case 0:
                int n = 1 + below(20);
                both(run, call, "insert(" + n + ")", a -> a.insert(n), b -> b.insert(n), x, y);
                break;
            case 1:
                both(run, call, "deposit()", a -> did(a::deposit), b -> did(b::deposit), x, y);
                break;
            case 2:
                both(run, call, "taken()", a -> a.taken(), b -> b.taken(), x, y);
                break;
            case 3:
                int sum = below(2) == 0 ? 1 + below(400) : 1 + below(60);
                both(run, call, "payout(" + sum + ")", a -> a.payout(sum), b -> b.payout(sum), x, y);
                break;
            case 4:
                both(run, call, "service()", a -> a.service() ? 1 : 0, b -> b.service() ? 1 : 0, x, y);
                break;
            default:
                int kind = below(7);
                both(run, call, "verdict(" + kind + ")", a -> a.verdict(kind), b -> b.verdict(kind), x, y);
        }
    }

    private static void leadOnJammed(int run, int call, CashRecycler x, PlainMachine y) {
        int s = below(10);
        switch (below(8)) {
            case 0:
            case 1:
                both(run, call, "open()", a -> did(a::open), b -> did(b::open), x, y);
                break;
            case 2:
                both(run, call, "remove(" + s + ")", a -> a.remove(s), b -> b.remove(s), x, y);
                break;
            case 3:
                both(run, call, "close()", a -> a.close(), b -> b.close(), x, y);
                break;
            default:
                both(run, call, "free(" + s + ")", a -> a.free(s) ? 1 : 0, b -> b.free(s) ? 1 : 0, x, y);
        }
    }

    private static void leadOnService(int run, int call, CashRecycler x, PlainMachine y) {
        int c = below(4);
        switch (below(5)) {
            case 0:
                int kind = 1 + below(5);
                both(run, call, "kind(" + c + ", " + kind + ")",
                        a -> did(() -> a.kind(c, kind)), b -> did(() -> b.kind(c, kind)), x, y);
                break;
            case 1:
                int place = below(6);
                both(run, call, "empty(" + place + ")", a -> a.empty(place), b -> b.empty(place), x, y);
                break;
            case 2:
                both(run, call, "service()", a -> a.service() ? 1 : 0, b -> b.service() ? 1 : 0, x, y);
                break;
            default:
                int n = 1 + below(30);
                both(run, call, "refill(" + c + ", " + n + ")",
                        a -> a.refill(c, n), b -> b.refill(c, n), x, y);
        }
    }

    /** Any call in any state, the arguments often wrong. */
    private static void anyCall(int run, int call, CashRecycler x, PlainMachine y) {
        int i = below(13) - 1;
        int j = below(8) - 1;
        int far = below(4) == 0 ? Integer.MAX_VALUE - below(3) : below(450) - 20;
        String text = "(" + i + ", " + j + ", " + far + ")";
        switch (below(24)) {
            case 0: both(run, call, "insert" + text, a -> a.insert(far), b -> b.insert(far), x, y); break;
            case 1: both(run, call, "verdict" + text, a -> a.verdict(j), b -> b.verdict(j), x, y); break;
            case 2: both(run, call, "deposit()", a -> did(a::deposit), b -> did(b::deposit), x, y); break;
            case 3: both(run, call, "confirm()", a -> did(a::confirm), b -> did(b::confirm), x, y); break;
            case 4: both(run, call, "giveBack()", a -> did(a::giveBack), b -> did(b::giveBack), x, y); break;
            case 5: both(run, call, "payout" + text, a -> a.payout(far), b -> b.payout(far), x, y); break;
            case 6: both(run, call, "plan" + text, a -> a.plan(far, j), b -> b.plan(far, j), x, y); break;
            case 7: both(run, call, "step" + text, a -> a.step(far), b -> b.step(far), x, y); break;
            case 8: both(run, call, "taken()", a -> a.taken(), b -> b.taken(), x, y); break;
            case 9: both(run, call, "stick" + text, a -> did(() -> a.stick(i)), b -> did(() -> b.stick(i)), x, y); break;
            case 10: both(run, call, "open()", a -> did(a::open), b -> did(b::open), x, y); break;
            case 11: both(run, call, "remove" + text, a -> a.remove(i), b -> b.remove(i), x, y); break;
            case 12: both(run, call, "free" + text, a -> a.free(i) ? 1 : 0, b -> b.free(i) ? 1 : 0, x, y); break;
            case 13: both(run, call, "close()", a -> a.close(), b -> b.close(), x, y); break;
            case 14: both(run, call, "power()", a -> a.power() ? 1 : 0, b -> b.power() ? 1 : 0, x, y); break;
            case 15: both(run, call, "service()", a -> a.service() ? 1 : 0, b -> b.service() ? 1 : 0, x, y); break;
            case 16: both(run, call, "kind" + text, a -> did(() -> a.kind(i, j)), b -> did(() -> b.kind(i, j)), x, y); break;
            case 17: both(run, call, "refill" + text, a -> a.refill(j, far), b -> b.refill(j, far), x, y); break;
            case 18: both(run, call, "empty" + text, a -> a.empty(j), b -> b.empty(j), x, y); break;
            case 19: both(run, call, "state()", a -> a.state(), b -> b.state(), x, y); break;
            case 20: both(run, call, "notes" + text, a -> a.notes(i, j), b -> b.notes(i, j), x, y); break;
            case 21: both(run, call, "cassette" + text, a -> a.cassette(i, j), b -> b.cassette(i, j), x, y); break;
            case 22: both(run, call, "belt" + text, a -> a.belt(i, j), b -> b.belt(i, j), x, y); break;
            default: both(run, call, "balance()", a -> a.balance(), b -> b.balance(), x, y);
        }
    }

    private static int did(Runnable call) {
        call.run();
        return 0;
    }

    private static void both(int run, int call, String what, ToIntFunction<CashRecycler> real,
            ToIntFunction<PlainMachine> plain, CashRecycler x, PlainMachine y) {
        int want = answer(() -> plain.applyAsInt(y));
        int got = answer(() -> real.applyAsInt(x));
        Check.due(promiseOf(what), "run " + run + ", call " + call + ", " + what, want, got);
    }

    private static int answer(java.util.function.IntSupplier call) {
        try {
            return call.getAsInt();
        } catch (IllegalStateException e) {
            return BAD_STATE;
        } catch (IllegalArgumentException e) {
            return BAD_ARGUMENT;
        } catch (UnsupportedOperationException e) {
            return UNSUPPORTED;
        } catch (java.util.NoSuchElementException e) {
            return NO_SUCH;
        }
    }

    private static int promiseOf(String what) {
        String[] names = {"insert", "verdict", "deposit", "confirm", "giveBack", "payout", "plan", "step",
            "taken", "stick", "open", "remove", "free", "close", "power", "service", "kind", "refill",
            "empty", "state", "notes", "cassette", "belt", "balance"};
        String name = what.substring(0, what.indexOf('('));
        return java.util.Arrays.asList(names).indexOf(name) + 2;
    }

    private static void compareAll(int run, int call, CashRecycler x, PlainMachine y) {
        String where = "run " + run + ", after call " + call + ", ";
        Check.due(21, where + "state()", y.state(), x.state());
        Check.due(25, where + "balance()", 0, x.balance());
        for (int place = 0; place <= 10; place++) {
            for (int kind = 0; kind <= 5; kind++) {
                Check.due(22, where + "notes(" + place + ", " + kind + ")", y.notes(place, kind),
                        x.notes(place, kind));
            }
        }
        for (int c = 0; c < 4; c++) {
            Check.due(23, where + "cassette(" + c + ", 0)", y.cassette(c, 0), x.cassette(c, 0));
            Check.due(23, where + "cassette(" + c + ", 1)", y.cassette(c, 1), x.cassette(c, 1));
        }
        for (int s = 0; s < 10; s++) {
            for (int what = 0; what <= 2; what++) {
                Check.due(24, where + "belt(" + s + ", " + what + ")", y.belt(s, what), x.belt(s, what));
            }
        }
    }
}
