/** Promises 1 to 6: a new object, insert, verdict, deposit, confirm, giveBack. */
public final class DepositTest {
    public static void main(String[] args) {
        newObject();
        insert();
        verdict();
        deposit();
        counting();
        countingStopsAtFullEscrow();
        kindlessNotesCountOnTheBelt();
        confirm();
        storing();
        storingChoosesCassettes();
        giveBack();
        returning();
        Check.finish();
    }

    private static void newObject() {
        CashRecycler x = new CashRecycler();
        Check.due(1, "state()", Machines.IDLE, x.state());
        for (int place = 0; place <= 10; place++) {
            for (int kind = 0; kind <= 5; kind++) {
                Check.due(1, "notes(" + place + ", " + kind + ")", 0, x.notes(place, kind));
            }
        }
        for (int c = 0; c < 4; c++) {
            Check.due(1, "cassette(" + c + ", 0)", 0, x.cassette(c, 0));
            Check.due(1, "cassette(" + c + ", 1)", c + 1, x.cassette(c, 1));
        }
        for (int s = 0; s < 10; s++) {
            Check.due(1, "belt(" + s + ", 0)", -1, x.belt(s, 0));
        }
        Check.due(1, "balance()", 0, x.balance());
        Check.due(1, "taken()", 0, x.taken());
        Check.due(1, "verdict(1), none waiting", 1, x.verdict(1));
        Check.due(1, "power() of a machine with power", false, x.power());
    }

    private static void insert() {
        CashRecycler x = new CashRecycler();
        Check.badArgument(2, "insert(0)", () -> x.insert(0));
        Check.badArgument(2, "insert(-1)", () -> x.insert(-1));
        Check.badArgument(2, "insert(21)", () -> x.insert(21));
        Check.badArgument(2, "insert(MAX)", () -> x.insert(Integer.MAX_VALUE));
        Check.badArgument(2, "insert(MIN)", () -> x.insert(Integer.MIN_VALUE));
        Check.due(2, "notes(10, 0) after refusals", 0, x.notes(10, 0));
        Check.due(2, "insert(1)", 1, x.insert(1));
        Check.due(2, "insert(20)", 21, x.insert(20));
        Check.badState(2, "insert(20) to 41", () -> x.insert(20));
        Check.due(2, "insert(19)", 40, x.insert(19));
        Check.badState(2, "insert(1) to 41", () -> x.insert(1));
        Check.badArgument(2, "insert(21), slot full", () -> x.insert(21));
        Check.due(2, "notes(10, 0)", 40, x.notes(10, 0));
        Check.due(2, "notes(10, 1)", 0, x.notes(10, 1));

        CashRecycler dark = Machines.cut(new CashRecycler());
        Check.due(2, "insert(3) without power", 3, dark.insert(3));
        CashRecycler open = Machines.opened();
        Check.due(2, "insert(3) when open", 3, open.insert(3));
    }

    private static void verdict() {
        CashRecycler x = new CashRecycler();
        Check.badArgument(3, "verdict(-1)", () -> x.verdict(-1));
        Check.badArgument(3, "verdict(7)", () -> x.verdict(7));
        for (int i = 0; i < 40; i++) {
            Check.due(3, "verdict no. " + i, i + 1, x.verdict(i % 7));
        }
        Check.badState(3, "verdict(0), 40 waiting", () -> x.verdict(0));
        Check.badState(3, "verdict(6), 40 waiting", () -> x.verdict(6));
        Check.badArgument(3, "verdict(7), 40 waiting", () -> x.verdict(7));

        CashRecycler dark = Machines.cut(new CashRecycler());
        Check.due(3, "verdict(4) without power", 1, dark.verdict(4));
        dark.power();
        Check.due(3, "verdict(3), one kept from the dark", 2, dark.verdict(3));
        dark.insert(3);
        dark.deposit();
        dark.step(100);
        Check.due(3, "first verdict used first", 1, dark.notes(0, 4));
        Check.due(3, "second verdict used", 1, dark.notes(0, 3));
        Check.due(3, "no verdict is as 6", 1, dark.notes(5, 0));

        CashRecycler zero = Machines.escrowed(0, 6, 2);
        Check.due(3, "0 as 6: without kind in the tray", 2, zero.notes(5, 0));
        Check.due(3, "2 behind them", 1, zero.notes(0, 2));

        CashRecycler left = Machines.counting(1);
        left.verdict(5);
        left.verdict(5);
        left.step(100);
        Check.due(3, "one verdict used, two wait", 3, left.verdict(5));
        verdictsRunOn();
    }

    private static void verdictsRunOn() {
        CashRecycler x = new CashRecycler();
        for (int round = 0; round < 6; round++) {
            for (int i = 0; i < 19; i++) {
                x.verdict(1 + (round * 19 + i) % 5);
            }
            x.insert(19);
            x.deposit();
            x.step(100);
            int[] want = new int[6];
            for (int i = 0; i < 19; i++) {
                want[1 + (round * 19 + i) % 5]++;
            }
            for (int kind = 1; kind <= 5; kind++) {
                Check.due(3, "verdicts of round " + round, want[kind], x.notes(0, kind));
            }
            x.giveBack();
            x.step(100);
            x.taken();
        }
    }

    private static void deposit() {
        CashRecycler x = new CashRecycler();
        Check.badState(4, "deposit(), slot empty", x::deposit);
        x.insert(2);
        x.power();
        Check.badState(4, "deposit() without power", x::deposit);
        x.power();
        x.deposit();
        Check.due(4, "state()", Machines.COUNTING, x.state());
        Check.badState(4, "deposit() in COUNTING", x::deposit);
        x.step(100);
        x.insert(1);
        Check.badState(4, "deposit() in ESCROWED", x::deposit);
        x.confirm();
        x.step(1);
        Check.due(4, "state() with an empty escrow stored", Machines.IDLE, x.state());
        Check.badState(4, "deposit(), tray not empty", x::deposit);
        Check.due(4, "taken()", 2, x.taken());
        x.deposit();
        Check.due(4, "state()", Machines.COUNTING, x.state());

        CashRecycler served = new CashRecycler();
        served.insert(1);
        served.service();
        Check.badState(4, "deposit() in SERVICE", served::deposit);
    }

    private static void counting() {
        CashRecycler x = Machines.counting(3, 6, 1);
        String[] due = {"0.........", "00........", "003.......", ".003......", "..103.....",
            "...10.....", "....10....", "......0...", ".......0..", "........0.", ".........0", ".........."};
        Machines.stepThrough(9, x, due, Machines.COUNTING, Machines.ESCROWED);
        Check.due(4, "escrow of kind 3", 1, x.notes(0, 3));
        Check.due(4, "escrow of kind 1", 1, x.notes(0, 1));
        Check.due(4, "tray without kind", 1, x.notes(5, 0));
        Check.due(4, "came in of kind 3", 1, x.notes(9, 3));
        Check.due(4, "came in without kind", 0, x.notes(9, 0));
    }

    private static void countingStopsAtFullEscrow() {
        CashRecycler x = new CashRecycler();
        x.insert(20);
        x.insert(10);
        for (int i = 0; i < 30; i++) {
            x.verdict(2);
        }
        x.deposit();
        int steps = 0;
        while (x.step(1) == Machines.COUNTING && steps < 200) {
            steps++;
            int held = Machines.all(x, Machines.IN_ESCROW) + Machines.all(x, Machines.ON_BELT);
            Check.due(4, "belt and escrow at most 24", true, held <= 24);
        }
        Check.due(4, "state()", Machines.ESCROWED, x.state());
        Check.due(4, "escrow", 24, x.notes(0, 2));
        Check.due(4, "the slot's rest in the tray", 6, x.notes(5, 0));
        Check.due(4, "slot", 0, x.notes(10, 0));
        Check.due(4, "came in", 24, x.notes(9, 2));
        Check.due(3, "verdicts left", 7, x.verdict(2));
        // The last of 24 comes in step 24, and is in the escrow five steps later.
        Check.due(4, "steps until ESCROWED", 28, steps);
    }

    private static void kindlessNotesCountOnTheBelt() {
        CashRecycler x = new CashRecycler();
        x.insert(20);
        x.insert(8);
        for (int i = 0; i < 20; i++) {
            x.verdict(1);
        }
        for (int i = 0; i < 8; i++) {
            x.verdict(6);
        }
        x.deposit();
        x.step(24);
        Check.due(4, "24 on belt and in escrow: slot", 4, x.notes(10, 0));
        x.step(1);
        Check.due(4, "none comes while 24 are held", 4, x.notes(10, 0));
        x.step(5);
        Check.due(4, "none comes before one is in the tray", 4, x.notes(10, 0));
        x.step(1);
        Check.due(4, "one in the tray", 1, x.notes(5, 0));
        Check.due(4, "one comes in its place", 3, x.notes(10, 0));
        x.step(100);
        Check.due(4, "state()", Machines.ESCROWED, x.state());
        Check.due(4, "escrow", 20, x.notes(0, 1));
        Check.due(4, "tray", 8, x.notes(5, 0));
    }

    private static void confirm() {
        CashRecycler x = Machines.escrowed(1, 2);
        x.power();
        Check.badState(5, "confirm() without power", x::confirm);
        x.power();
        Check.due(16, "ESCROWED stays", Machines.ESCROWED, x.state());
        x.confirm();
        Check.due(5, "state()", Machines.STORING, x.state());
        Check.badState(5, "confirm() in STORING", x::confirm);
        Check.badState(5, "confirm() in IDLE", () -> new CashRecycler().confirm());
        Check.badState(5, "confirm() in COUNTING", () -> Machines.counting(1).confirm());
        Check.badState(5, "confirm() in JAMMED", () -> Machines.jammed().confirm());
    }

    private static void storing() {
        CashRecycler x = Machines.escrowed(1, 3, 5);
        x.confirm();
        String[] due = {"....5.....", "....35....", "....135...", ".....135..", "........5.", ".........."};
        Machines.stepThrough(5, x, due, Machines.STORING, Machines.IDLE);
        Check.due(5, "cassette 0", 1, x.cassette(0, 0));
        Check.due(5, "cassette 2", 1, x.cassette(2, 0));
        Check.due(5, "overflow", 1, x.notes(2, 5));
        Check.due(5, "balance()", 0, x.balance());
    }

    private static void storingChoosesCassettes() {
        CashRecycler x = Machines.withKinds(2, 28, 1, 0, 2, 29, 2, 30);
        Machines.startCounting(x, 2, 2, 2, 2, 2);
        x.step(100);
        x.confirm();
        int[] goals = {2, 2, 4, 7, 7};
        for (int i = 0; i < goals.length; i++) {
            x.step(1);
            Check.due(5, "goal of note " + i, goals[i], x.belt(4, 1));
        }
        x.step(20);
        Check.due(5, "state()", Machines.IDLE, x.state());
        Check.due(5, "cassette 0", 30, x.cassette(0, 0));
        Check.due(5, "cassette 1", 0, x.cassette(1, 0));
        Check.due(5, "cassette 2", 30, x.cassette(2, 0));
        Check.due(5, "cassette 3", 30, x.cassette(3, 0));
        Check.due(5, "overflow", 2, x.notes(2, 2));
    }

    private static void giveBack() {
        CashRecycler x = Machines.escrowed(1);
        x.power();
        Check.badState(6, "giveBack() without power", x::giveBack);
        x.power();
        x.giveBack();
        Check.due(6, "state()", Machines.RETURNING, x.state());
        Check.badState(6, "giveBack() in RETURNING", x::giveBack);
        Check.badState(6, "giveBack() in IDLE", () -> new CashRecycler().giveBack());
        Check.badState(6, "giveBack() in COUNTING", () -> Machines.counting(1).giveBack());
        Check.badState(6, "giveBack() in JAMMED", () -> Machines.jammed().giveBack());
    }

    private static void returning() {
        CashRecycler x = Machines.escrowed(4, 1, 6);
        x.giveBack();
        x.step(2);
        Check.due(6, "topmost first", 1, x.belt(5, 0));
        Check.due(6, "then the one below", 4, x.belt(4, 0));
        Check.due(6, "goal of the first", 8, x.belt(5, 1));
        Check.due(6, "goal of the second", 8, x.belt(4, 1));
        x.step(5);
        Check.due(6, "state() with a note on the belt", Machines.RETURNING, x.state());
        x.step(1);
        Check.due(6, "state()", Machines.IDLE, x.state());
        Check.due(6, "tray of kind 1", 1, x.notes(5, 1));
        Check.due(6, "tray of kind 4", 1, x.notes(5, 4));
        Check.due(6, "taken(), the refused one too", 3, x.taken());
        Check.due(6, "taken without kind", 1, x.notes(6, 0));
        Check.due(6, "balance()", 0, x.balance());

        CashRecycler none = Machines.escrowed(6);
        none.giveBack();
        none.step(1);
        Check.due(6, "state(), nothing to return", Machines.IDLE, none.state());
    }
}
