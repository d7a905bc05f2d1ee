import java.util.ArrayList;
import java.util.List;
import java.util.NoSuchElementException;
import java.util.function.Consumer;
import java.util.function.Supplier;

/**
 * The boundary case of a refused call: every call in every situation throws what its promise says
 * or nothing, and a refused call changes nothing.
 */
public final class RefusalsTest {
    private static final int MIN = Integer.MIN_VALUE;
    private static final int MAX = Integer.MAX_VALUE;

    /** In the order of SITUATIONS: IDLE, tray not empty, slot empty, COUNTING, and so on. */
    private static final String ALWAYS = ". . . . . . . . . . . .";
    private static final String NEVER = "S S S S S S S S S S S S";

    private static final String[] SITUATIONS = {"IDLE", "IDLE, a note in the tray", "IDLE, slot empty",
        "COUNTING", "ESCROWED", "STORING", "RETURNING", "PAYING", "JAMMED", "open", "RECOVERING", "SERVICE"};

    private static final class Call {
        final int promise;
        final String name;
        final Consumer<CashRecycler> body;

        Call(int promise, String name, Consumer<CashRecycler> body) {
            this.promise = promise;
            this.name = name;
            this.body = body;
        }
    }

    public static void main(String[] args) {
        situationsAreAsNamed();
        callsWithoutFaultByTheState();
        beginnings();
        callsOfAnOpenMachine();
        callsOfService();
        stickWhereverANoteIs();
        earlierExceptionsFirst();
        refusedCallsChangeNothing();
        Check.finish();
    }

    private static CashRecycler situation(int i) {
        CashRecycler x = Machines.filled(5, 5, 5, 0);
        switch (i) {
            case 0:
                x.insert(2);
                break;
            case 1:
                x.payout(1);
                x.step(100);
                x.insert(2);
                break;
            case 2:
                break;
            case 3:
                Machines.startCounting(x, 1, 6, 5, 2);
                x.step(3);
                break;
            case 4:
                escrow(x);
                break;
            case 5:
                escrow(x);
                x.confirm();
                x.step(2);
                break;
            case 6:
                escrow(x);
                x.giveBack();
                x.step(2);
                break;
            case 7:
                x.insert(2);
                x.payout(9);
                x.step(2);
                break;
            case 8:
                jam(x);
                break;
            case 9:
                jam(x);
                x.open();
                break;
            case 10:
                jam(x);
                x.open();
                x.free(6);
                x.close();
                break;
            default:
                x.insert(2);
                x.service();
        }
        return x;
    }

    private static void escrow(CashRecycler x) {
        Machines.startCounting(x, 1, 5, 2);
        x.step(100);
        x.insert(2);
    }

    private static void jam(CashRecycler x) {
        x.insert(2);
        x.payout(9);
        x.step(1);
        x.stick(6);
        x.step(2);
    }

    private static CashRecycler situationInTheDark(int i) {
        return Machines.cut(situation(i));
    }

    private static char thrown(CashRecycler x, Consumer<CashRecycler> body) {
        try {
            body.accept(x);
            return '.';
        } catch (RuntimeException e) {
            if (e.getClass() == IllegalStateException.class) {
                return 'S';
            }
            if (e.getClass() == IllegalArgumentException.class) {
                return 'A';
            }
            if (e.getClass() == UnsupportedOperationException.class) {
                return 'U';
            }
            return e.getClass() == NoSuchElementException.class ? 'N' : '?';
        }
    }

    private static void dueThrown(int promise, String what, char want, char got) {
        Check.same(promise, what + " (. nothing, S state, A argument, U unsupported, N no such)",
                String.valueOf(want), String.valueOf(got));
    }

    /** Lines of S IllegalStateException and . nothing, one sign for each situation. */
    private static void due(int promise, String name, String lit, String dark, Consumer<CashRecycler> body) {
        for (int i = 0; i < SITUATIONS.length; i++) {
            String what = name + ", " + SITUATIONS[i];
            dueThrown(promise, what, lit.charAt(2 * i), thrown(situation(i), body));
            dueThrown(promise, what + ", without power", dark.charAt(2 * i), thrown(situationInTheDark(i), body));
        }
    }

    private static void situationsAreAsNamed() {
        int[] states = {Machines.IDLE, Machines.IDLE, Machines.IDLE, Machines.COUNTING, Machines.ESCROWED,
            Machines.STORING, Machines.RETURNING, Machines.PAYING, Machines.JAMMED, Machines.JAMMED,
            Machines.RECOVERING, Machines.SERVICE};
        for (int i = 0; i < SITUATIONS.length; i++) {
            Check.due(21, "state(), " + SITUATIONS[i], states[i], situation(i).state());
        }
    }

    private static void callsWithoutFaultByTheState() {
        due(2, "insert(1)", ALWAYS, ALWAYS, x -> x.insert(1));
        due(3, "verdict(1)", ALWAYS, ALWAYS, x -> x.verdict(1));
        due(8, "plan(1, 1)", ALWAYS, ALWAYS, x -> x.plan(1, 1));
        due(9, "step(1)", ALWAYS, ALWAYS, x -> x.step(1));
        due(10, "taken()", ALWAYS, ALWAYS, x -> x.taken());
        due(16, "power()", ALWAYS, ALWAYS, x -> x.power());
        due(21, "state()", ALWAYS, ALWAYS, x -> x.state());
        due(22, "notes(10, 5)", ALWAYS, ALWAYS, x -> x.notes(10, 5));
        due(23, "cassette(3, 1)", ALWAYS, ALWAYS, x -> x.cassette(3, 1));
        due(24, "belt(9, 2)", ALWAYS, ALWAYS, x -> x.belt(9, 2));
        due(25, "balance()", ALWAYS, ALWAYS, x -> x.balance());
    }

    // "IllegalStateException if it is not IDLE, without power, ...", "... if it is not ESCROWED, or
    // without power", "... if it is not JAMMED, is open, or without power"
    private static void beginnings() {
        due(4, "deposit()", ". S S S S S S S S S S S", NEVER, x -> x.deposit());
        due(5, "confirm()", "S S S S . S S S S S S S", NEVER, x -> x.confirm());
        due(6, "giveBack()", "S S S S . S S S S S S S", NEVER, x -> x.giveBack());
        due(7, "payout(1)", ". S . S S S S S S S S S", NEVER, x -> x.payout(1));
        due(12, "open()", "S S S S S S S S . S S S", NEVER, x -> x.open());
        due(17, "service()", ". . . S S S S S S S S .", NEVER, x -> x.service());
    }

    // "IllegalStateException if it is not open", "... or without power"
    private static void callsOfAnOpenMachine() {
        String open = "S S S S S S S S S . S S";
        due(13, "remove(6)", open, open, x -> x.remove(6));
        due(14, "free(6)", open, open, x -> x.free(6));
        due(14, "free(0)", open, open, x -> x.free(0));
        due(15, "close()", open, NEVER, x -> x.close());
    }

    // "IllegalStateException if it is not in SERVICE, or without power"
    private static void callsOfService() {
        String served = "S S S S S S S S S S S .";
        due(18, "kind(3, 5)", served, NEVER, x -> x.kind(3, 5));
        due(19, "refill(3, 30)", served, NEVER, x -> x.refill(3, 30));
        for (int place = 0; place <= 5; place++) {
            int p = place;
            due(20, "empty(" + p + ")", served, NEVER, x -> x.empty(p));
        }
    }

    // "The note in a segment sticks from now on. ... NoSuchElementException if there is no note."
    private static void stickWhereverANoteIs() {
        for (int i = 0; i < SITUATIONS.length; i++) {
            for (int s = 0; s < 10; s++) {
                int segment = s;
                CashRecycler x = situation(i);
                char due = x.belt(s, 0) < 0 ? 'N' : '.';
                String what = "stick(" + s + "), " + SITUATIONS[i];
                dueThrown(11, what, due, thrown(x, y -> y.stick(segment)));
                dueThrown(11, what + ", without power", due,
                        thrown(situationInTheDark(i), y -> y.stick(segment)));
            }
        }
    }

    /** Where several exceptions would fit: the one that the method's throws names first. */
    private static void earlierExceptionsFirst() {
        CashRecycler full = new CashRecycler();
        Machines.insertAll(full, 40);
        Machines.verdicts(full, 40, 6);
        Check.badArgument(2, "insert(21), slot full", () -> full.insert(21));
        Check.badArgument(3, "verdict(-1), 40 wait", () -> full.verdict(-1));
        for (int i = 1; i < SITUATIONS.length; i++) {
            char due = i == 2 ? 'U' : 'S';
            dueThrown(7, "payout(0), " + SITUATIONS[i], 'A', thrown(situation(i), x -> x.payout(0)));
            dueThrown(7, "payout(401), " + SITUATIONS[i], 'A', thrown(situationInTheDark(i), x -> x.payout(401)));
            dueThrown(7, "payout(400), " + SITUATIONS[i], due, thrown(situation(i), x -> x.payout(400)));
        }
        due(13, "remove(10)", "S S S S S S S S S A S S", "S S S S S S S S S A S S", x -> x.remove(10));
        due(13, "remove(0)", "S S S S S S S S S N S S", "S S S S S S S S S N S S", x -> x.remove(0));
        due(14, "free(-1)", "S S S S S S S S S A S S", "S S S S S S S S S A S S", x -> x.free(-1));
        due(18, "kind(4, 1)", "S S S S S S S S S S S A", NEVER, x -> x.kind(4, 1));
        due(18, "kind(0, 6)", "S S S S S S S S S S S A", NEVER, x -> x.kind(0, 6));
        due(18, "kind(0, 5)", "S S S S S S S S S S S U", NEVER, x -> x.kind(0, 5));
        due(19, "refill(4, 0)", "S S S S S S S S S S S A", NEVER, x -> x.refill(4, 0));
        due(19, "refill(0, 26)", "S S S S S S S S S S S A", NEVER, x -> x.refill(0, 26));
        due(20, "empty(6)", "S S S S S S S S S S S A", NEVER, x -> x.empty(6));
    }

    private static List<Call> calls() {
        List<Call> calls = new ArrayList<>();
        int[] numbers = {MIN, -1, 0, 1, 4, 5, 6, 7, 9, 10, 11, 20, 21, 26, 30, 31, 101, 400, 401, MAX};
        for (int n : numbers) {
            calls.add(new Call(2, "insert(" + n + ")", x -> x.insert(n)));
            calls.add(new Call(3, "verdict(" + n + ")", x -> x.verdict(n)));
            calls.add(new Call(7, "payout(" + n + ")", x -> x.payout(n)));
            calls.add(new Call(8, "plan(" + n + ", 1)", x -> x.plan(n, 1)));
            calls.add(new Call(8, "plan(1, " + n + ")", x -> x.plan(1, n)));
            calls.add(new Call(9, "step(" + n + ")", x -> x.step(n)));
            calls.add(new Call(11, "stick(" + n + ")", x -> x.stick(n)));
            calls.add(new Call(13, "remove(" + n + ")", x -> x.remove(n)));
            calls.add(new Call(14, "free(" + n + ")", x -> x.free(n)));
            calls.add(new Call(18, "kind(" + n + ", 5)", x -> x.kind(n, 5)));
            calls.add(new Call(18, "kind(3, " + n + ")", x -> x.kind(3, n)));
            calls.add(new Call(19, "refill(" + n + ", 1)", x -> x.refill(n, 1)));
            calls.add(new Call(19, "refill(0, " + n + ")", x -> x.refill(0, n)));
            calls.add(new Call(20, "empty(" + n + ")", x -> x.empty(n)));
            calls.add(new Call(22, "notes(" + n + ", 0)", x -> x.notes(n, 0)));
            calls.add(new Call(22, "notes(0, " + n + ")", x -> x.notes(0, n)));
            calls.add(new Call(23, "cassette(" + n + ", 0)", x -> x.cassette(n, 0)));
            calls.add(new Call(23, "cassette(0, " + n + ")", x -> x.cassette(0, n)));
            calls.add(new Call(24, "belt(" + n + ", 0)", x -> x.belt(n, 0)));
            calls.add(new Call(24, "belt(0, " + n + ")", x -> x.belt(0, n)));
        }
        calls.add(new Call(4, "deposit()", x -> x.deposit()));
        calls.add(new Call(5, "confirm()", x -> x.confirm()));
        calls.add(new Call(6, "giveBack()", x -> x.giveBack()));
        calls.add(new Call(12, "open()", x -> x.open()));
        calls.add(new Call(15, "close()", x -> x.close()));
        calls.add(new Call(17, "service()", x -> x.service()));
        return calls;
    }

    private static void refusedCallsChangeNothing() {
        List<Call> calls = calls();
        for (int i = 0; i < SITUATIONS.length; i++) {
            int number = i;
            changeNothing(calls, SITUATIONS[i], () -> situation(number));
            changeNothing(calls, SITUATIONS[i] + ", without power", () -> situationInTheDark(number));
            changeNothing(calls, SITUATIONS[i] + ", slot and verdicts full", () -> filledUp(situation(number)));
        }
    }

    private static CashRecycler filledUp(CashRecycler x) {
        Machines.insertAll(x, 40 - x.notes(Machines.IN_SLOT, 0));
        int waiting = x.verdict(4);
        Machines.verdicts(x, 40 - waiting, 3);
        return x;
    }

    private static void changeNothing(List<Call> calls, String where, Supplier<CashRecycler> machine) {
        String due = future(machine.get());
        for (Call call : calls) {
            CashRecycler x = machine.get();
            if (thrown(x, call.body) != '.') {
                Check.same(call.promise, "after the refused " + call.name + ", " + where + ": the machine",
                        due, future(x));
            }
        }
    }

    /** What the machine shows now and later, so that hidden changes come to light too. */
    private static String future(CashRecycler x) {
        StringBuilder text = new StringBuilder(Machines.snapshot(x));
        text.append(thrown(x, y -> text.append(' ').append(y.verdict(2))));
        text.append(x.step(1)).append(x.step(1));
        text.append(thrown(x, y -> text.append(' ').append(y.free(6))));
        text.append(thrown(x, y -> text.append(' ').append(y.close())));
        text.append(' ').append(Machines.snapshot(x));
        text.append(x.step(40)).append(x.taken());
        text.append(' ').append(x.power()).append(x.step(40)).append(x.taken());
        text.append(thrown(x, CashRecycler::confirm)).append(thrown(x, CashRecycler::deposit));
        text.append(thrown(x, CashRecycler::service)).append(thrown(x, CashRecycler::open));
        text.append(' ').append(x.power()).append(x.step(40)).append(x.taken());
        return text.append(' ').append(Machines.snapshot(x)).toString();
    }
}
