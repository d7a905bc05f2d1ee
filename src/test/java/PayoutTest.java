/** Promises 7 and 8: payout and plan. */
public final class PayoutTest {
    public static void main(String[] args) {
        planRefusals();
        planFewest();
        planTies();
        planAtMostTwenty();
        planAgainstAllWays();
        planDuringPayout();
        payoutRefusals();
        payoutOrder();
        payoutFromSeveralCassettes();
        payoutWaitsForItsSegment();
        Check.finish();
    }

    private static void duePlan(CashRecycler x, int amount, int... counts) {
        for (int kind = 1; kind <= 5; kind++) {
            Check.due(8, "plan(" + amount + ", " + kind + ")", counts[kind - 1], x.plan(amount, kind));
        }
    }

    private static void planRefusals() {
        CashRecycler x = Machines.filled(5, 5, 5, 5);
        Check.badArgument(8, "plan(0, 1)", () -> x.plan(0, 1));
        Check.badArgument(8, "plan(-1, 1)", () -> x.plan(-1, 1));
        Check.badArgument(8, "plan(401, 1)", () -> x.plan(401, 1));
        Check.badArgument(8, "plan(1, 0)", () -> x.plan(1, 0));
        Check.badArgument(8, "plan(1, 6)", () -> x.plan(1, 6));
        Check.badArgument(8, "plan(MIN, MIN)", () -> x.plan(Integer.MIN_VALUE, Integer.MIN_VALUE));
        Check.badArgument(8, "plan(MAX, MAX)", () -> x.plan(Integer.MAX_VALUE, Integer.MAX_VALUE));
        duePlan(x, 400, -1, -1, -1, -1, -1);
        duePlan(new CashRecycler(), 1, -1, -1, -1, -1, -1);
        x.power();
        duePlan(x, 1, 1, 0, 0, 0, 0);
    }

    private static void planFewest() {
        CashRecycler x = Machines.filled(5, 5, 5, 5);
        duePlan(x, 1, 1, 0, 0, 0, 0);
        duePlan(x, 7, 1, 1, 1, 0, 0);
        duePlan(x, 8, 0, 0, 2, 0, 0);
        duePlan(x, 12, 0, 1, 0, 1, 0);
        duePlan(x, 19, 1, 0, 2, 1, 0);
        duePlan(x, 85, 5, 5, 5, 5, 0);
        duePlan(x, 86, -1, -1, -1, -1, -1);

        // Taking the most of the highest kind would leave a rest that no note pays.
        CashRecycler odd = Machines.withKinds(3, 10, 4, 10, 5, 10, 3, 0);
        duePlan(odd, 12, 0, 0, 3, 0, 0);
        duePlan(odd, 22, 0, 0, 3, 1, 0);
        duePlan(odd, 32, 0, 0, 3, 0, 1);
        duePlan(odd, 2, -1, -1, -1, -1, -1);
        duePlan(odd, 11, -1, -1, -1, -1, -1);
    }

    private static void planTies() {
        CashRecycler x = Machines.withKinds(1, 10, 3, 10, 4, 10, 1, 0);
        // 10 + 1 + 1 and 4 + 4 + 4 are as many notes; with a single 1 only the second is a plan.
        duePlan(x, 12, 2, 0, 0, 1, 0);
        duePlan(x, 16, 2, 0, 1, 1, 0);
        duePlan(Machines.withKinds(1, 1, 3, 10, 4, 10, 1, 0), 12, 0, 0, 3, 0, 0);
        // 20 + 10 + 1 + 1 and 20 + 4 + 4 + 4 are as many notes too.
        duePlan(Machines.withKinds(1, 9, 3, 9, 4, 9, 5, 9), 32, 2, 0, 0, 1, 1);
        // 20 + 1 + 1 is fewer than 10 + 4 + 4 + 4.
        duePlan(Machines.withKinds(1, 2, 3, 3, 4, 1, 5, 1), 22, 2, 0, 0, 0, 1);
    }

    private static void planAtMostTwenty() {
        CashRecycler x = Machines.filled(30, 0, 0, 0);
        duePlan(x, 20, 20, 0, 0, 0, 0);
        duePlan(x, 21, -1, -1, -1, -1, -1);
        Check.unsupported(7, "payout(21) of 21 notes", () -> x.payout(21));
        Check.due(7, "payout(20)", 20, x.payout(20));

        CashRecycler high = Machines.withKinds(5, 20, 1, 30, 2, 30, 3, 30);
        duePlan(high, 400, 0, 0, 0, 0, 20);
        duePlan(high, 399, -1, -1, -1, -1, -1);
        Check.due(7, "payout(400)", 20, high.payout(400));
        high.step(100);
        Check.due(7, "tray", 20, high.notes(5, 5));
    }

    /** Every amount on a few machines, against a search through all numbers of all kinds. */
    private static void planAgainstAllWays() {
        int[][] stocks = {
            {1, 3, 2, 2, 3, 4, 4, 5}, {1, 7, 3, 9, 4, 3, 5, 2}, {3, 12, 4, 5, 5, 3, 5, 4},
            {2, 4, 3, 1, 4, 30, 4, 2}, {1, 20, 2, 20, 3, 20, 4, 20}, {2, 30, 4, 1, 5, 8, 3, 2}};
        for (int[] stock : stocks) {
            CashRecycler x = Machines.withKinds(stock);
            int[] have = new int[6];
            for (int i = 0; i < stock.length; i += 2) {
                have[stock[i]] += stock[i + 1];
            }
            for (int amount = 1; amount <= 400; amount++) {
                int[] want = PlainMachine.bestPlan(have, amount);
                for (int kind = 1; kind <= 5; kind++) {
                    Check.due(8, "plan(" + amount + ", " + kind + ")", want == null ? -1 : want[kind],
                            x.plan(amount, kind));
                }
            }
        }
    }

    private static void planDuringPayout() {
        CashRecycler x = Machines.filled(4, 0, 0, 0);
        x.payout(3);
        x.step(1);
        Check.due(8, "plan of what is left in cassettes", 3, x.plan(3, 1));
        Check.due(8, "plan of more", -1, x.plan(4, 1));
        Check.due(8, "a plan asked for does not change the payout", Machines.IDLE, x.step(20));
        Check.due(7, "tray", 3, x.notes(5, 1));
        Check.due(7, "cassette 0", 1, x.cassette(0, 0));
    }

    private static void payoutRefusals() {
        CashRecycler x = Machines.filled(5, 5, 5, 5);
        Check.badArgument(7, "payout(0)", () -> x.payout(0));
        Check.badArgument(7, "payout(401)", () -> x.payout(401));
        Check.badArgument(7, "payout(MIN)", () -> x.payout(Integer.MIN_VALUE));
        Check.unsupported(7, "payout(400)", () -> x.payout(400));
        Check.due(7, "state() after refusals", Machines.IDLE, x.state());
        x.power();
        Check.badState(7, "payout(1) without power", () -> x.payout(1));
        Check.badState(7, "payout(400) without power", () -> x.payout(400));
        Check.badArgument(7, "payout(0) without power", () -> x.payout(0));
        x.power();
        Check.due(7, "payout(1)", 1, x.payout(1));
        Check.due(7, "state()", Machines.PAYING, x.state());
        Check.badState(7, "payout(1) in PAYING", () -> x.payout(1));
        x.step(20);
        Check.badState(7, "payout(1), tray not empty", () -> x.payout(1));
        x.taken();
        x.service();
        Check.badState(7, "payout(1) in SERVICE", () -> x.payout(1));
        x.service();
        Check.due(7, "payout(1)", 1, x.payout(1));

        CashRecycler refused = Machines.escrowed(6);
        refused.confirm();
        refused.step(1);
        Check.badState(7, "payout(1), a note without kind in the tray", () -> refused.payout(1));
    }

    private static void payoutOrder() {
        CashRecycler x = Machines.filled(1, 1, 2, 1);
        Check.due(7, "payout(21)", 5, x.payout(21));
        // 10 from 3 (segment 6), 4 and 4 from 2 (segment 6), 2 from 1 and 1 from 0 (segment 5).
        String[] due = {"......4...", "......34..", "......334.", ".....2.334", ".....12.33", "......12.3",
            ".......12.", "........12", ".........1", ".........."};
        Machines.stepThrough(7, x, due, Machines.PAYING, Machines.IDLE);
        Check.due(7, "taken()", 5, x.taken());
        Check.due(7, "balance()", 0, x.balance());
    }

    private static void payoutFromSeveralCassettes() {
        CashRecycler x = Machines.withKinds(2, 0, 5, 1, 1, 3, 5, 2);
        Check.due(7, "payout(60)", 3, x.payout(60));
        x.step(1);
        Check.due(7, "cassette 1 first", 0, x.cassette(1, 0));
        Check.due(7, "note at its segment", 5, x.belt(5, 0));
        Check.due(7, "its goal", 8, x.belt(5, 1));
        x.step(100);
        Check.due(7, "cassette 3 next", 0, x.cassette(3, 0));
        Check.due(7, "tray", 3, x.notes(5, 5));
        Check.due(7, "state()", Machines.IDLE, x.state());
    }

    private static void payoutWaitsForItsSegment() {
        CashRecycler x = Machines.withKinds(5, 1, 1, 3, 4, 1, 2, 0);
        Check.due(7, "payout(31)", 3, x.payout(31));
        // The note of kind 4 waits as that of kind 5 passes segment 6; kind 1 does not overtake it.
        String[] due = {".....5....", "......5...", "......45..", ".....1.45."};
        Machines.stepThrough(7, x, due, Machines.PAYING, Machines.PAYING);
    }
}
