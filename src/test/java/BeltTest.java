/** Promises 9, 10 and 24: step, taken and belt. */
public final class BeltTest {
    public static void main(String[] args) {
        stepRefusals();
        stepsOfStillMachines();
        notesStandBehindAStuckOne();
        nothingComesToATakenSegment();
        everyGoalAtItsSegment();
        taken();
        belt();
        Check.finish();
    }

    private static void stepRefusals() {
        CashRecycler x = Machines.counting(1);
        Check.badArgument(9, "step(0)", () -> x.step(0));
        Check.badArgument(9, "step(-1)", () -> x.step(-1));
        Check.badArgument(9, "step(101)", () -> x.step(101));
        Check.badArgument(9, "step(MAX)", () -> x.step(Integer.MAX_VALUE));
        Check.due(9, "nothing has moved", 1, x.notes(10, 0));
        x.power();
        Check.badArgument(9, "step(0) without power", () -> x.step(0));
        Check.due(9, "step(100) without power", Machines.COUNTING, x.step(100));
        Check.due(9, "nothing has moved without power", 1, x.notes(10, 0));
    }

    private static void stepsOfStillMachines() {
        CashRecycler idle = new CashRecycler();
        idle.insert(3);
        Check.due(9, "step(100) in IDLE", Machines.IDLE, idle.step(100));
        Check.due(9, "slot in IDLE", 3, idle.notes(10, 0));
        idle.service();
        Check.due(9, "step(100) in SERVICE", Machines.SERVICE, idle.step(100));

        CashRecycler escrowed = Machines.escrowed(1, 2);
        escrowed.insert(1);
        Check.due(9, "step(100) in ESCROWED", Machines.ESCROWED, escrowed.step(100));
        Check.due(9, "escrow", 2, Machines.all(escrowed, 0));
        Check.due(9, "slot in ESCROWED", 1, escrowed.notes(10, 0));

        CashRecycler jammed = Machines.jammed();
        Check.due(9, "step(100) in JAMMED", Machines.JAMMED, jammed.step(100));
        Check.due(9, "the note has not moved", 1, jammed.belt(5, 0));

        CashRecycler long1 = Machines.counting(1, 2, 3);
        CashRecycler long2 = Machines.counting(1, 2, 3);
        for (int i = 0; i < 7; i++) {
            long1.step(1);
        }
        long2.step(7);
        Check.due(9, "step(7) as seven steps", true,
                Machines.picture(long1).equals(Machines.picture(long2)));
    }

    private static void notesStandBehindAStuckOne() {
        CashRecycler x = Machines.counting(1, 2, 3, 4);
        x.step(4);
        Machines.shows(9, x, "0021......");
        x.stick(2);
        x.step(1);
        Machines.shows(9, x, "002.1.....");
        Check.due(9, "a note at its goal", 1, x.belt(4, 1));
        Check.due(9, "state()", Machines.JAMMED, x.step(1));
        Check.due(9, "the first is in the escrow", 1, x.notes(0, 1));
        Check.due(9, "a note that stays in segment 2 is judged once", 1, x.notes(9, 2));
        Check.due(9, "the next one has not been judged", 0, x.notes(9, 3));
    }

    private static void nothingComesToATakenSegment() {
        CashRecycler x = Machines.counting(1, 2, 3);
        x.step(1);
        x.stick(0);
        x.step(1);
        Check.due(9, "slot, segment 0 taken", 2, x.notes(10, 0));

        CashRecycler y = Machines.escrowed(1, 2);
        y.confirm();
        y.step(1);
        y.stick(4);
        y.step(1);
        Check.due(9, "escrow, segment 4 taken", 1, y.notes(0, 1));

        CashRecycler z = Machines.filled(3);
        z.payout(2);
        z.step(1);
        z.stick(5);
        z.step(1);
        Check.due(9, "cassette, segment 5 taken", 2, z.cassette(0, 0));
    }

    /** A note of kind k is stored: how many steps it takes tells the segment of its goal. */
    private static void everyGoalAtItsSegment() {
        int[] goals = {2, 3, 4, 5, 7};
        int[] segments = {5, 5, 6, 6, 8};
        for (int kind = 1; kind <= 5; kind++) {
            CashRecycler x = Machines.escrowed(kind);
            x.confirm();
            x.step(1);
            Check.due(24, "goal of kind " + kind, goals[kind - 1], x.belt(4, 1));
            x.step(segments[kind - 1] - 4);
            Check.due(9, "kind " + kind + " at its goal's segment", kind, x.belt(segments[kind - 1], 0));
            Check.due(9, "state()", Machines.STORING, x.state());
            Check.due(9, "state() when it is in", Machines.IDLE, x.step(1));
            Check.due(9, "where it is", 1, kind < 5 ? x.cassette(kind - 1, 0) : x.notes(2, 5));
        }
        for (int c = 0; c < 4; c++) {
            CashRecycler x = new CashRecycler();
            x.service();
            x.refill(c, 1);
            x.service();
            x.payout(new int[] {1, 2, 4, 10}[c]);
            x.step(1);
            int segment = c < 2 ? 5 : 6;
            Check.due(9, "from cassette " + c, c + 1, x.belt(segment, 0));
            Check.due(9, "on the way to the tray", Machines.PAYING, x.step(9 - segment));
            Check.due(9, "at the tray's segment", c + 1, x.belt(9, 0));
            Check.due(9, "in the tray", Machines.IDLE, x.step(1));
        }
        recoveryRunsToSegmentSeven();
    }

    private static void recoveryRunsToSegmentSeven() {
        CashRecycler x = Machines.counting(2, 6);
        x.step(3);
        x.power();
        x.power();
        Check.due(9, "REJECT of a judged note", 6, x.belt(2, 1));
        Check.due(9, "REJECT of a note not judged", 6, x.belt(1, 1));
        Check.due(9, "state()", Machines.RECOVERING, x.step(5));
        Check.due(9, "at the reject box's segment", 2, x.belt(7, 0));
        Check.due(9, "passes segment 2 unjudged", 0, x.belt(6, 0));
        Check.due(9, "state()", Machines.RECOVERING, x.step(1));
        Check.due(9, "reject of kind 2", 1, x.notes(4, 2));
        Check.due(9, "state()", Machines.IDLE, x.step(1));
        Check.due(9, "reject without kind", 1, x.notes(4, 0));
    }

    private static void taken() {
        CashRecycler x = Machines.filled(2, 2);
        Check.due(10, "taken() of an empty tray", 0, x.taken());
        x.payout(3);
        x.step(20);
        x.power();
        Check.due(10, "taken() without power", 2, x.taken());
        Check.due(10, "taken() again", 0, x.taken());
        Check.due(10, "tray", 0, Machines.all(x, 5));
        Check.due(10, "taken of kind 1", 1, x.notes(6, 1));
        Check.due(10, "taken of kind 2", 1, x.notes(6, 2));

        CashRecycler refused = Machines.escrowed(6, 0, 3);
        Check.due(10, "taken() in ESCROWED", 2, refused.taken());
        Check.due(10, "taken without kind", 2, refused.notes(6, 0));
        Check.due(10, "escrow is not touched", 1, refused.notes(0, 3));

        CashRecycler running = Machines.filled(2);
        running.payout(2);
        running.step(6);
        Check.due(10, "taken() in PAYING", 1, running.taken());
        running.step(1);
        Check.due(10, "taken() of the next one", 1, running.taken());
        Check.due(10, "balance()", 0, running.balance());
    }

    private static void belt() {
        CashRecycler x = Machines.counting(3, 6);
        Check.badArgument(24, "belt(-1, 0)", () -> x.belt(-1, 0));
        Check.badArgument(24, "belt(10, 0)", () -> x.belt(10, 0));
        Check.badArgument(24, "belt(0, -1)", () -> x.belt(0, -1));
        Check.badArgument(24, "belt(0, 3)", () -> x.belt(0, 3));
        for (int what = 0; what <= 2; what++) {
            Check.due(24, "belt(9, " + what + ") without a note", -1, x.belt(9, what));
        }
        x.step(1);
        Check.due(24, "kind before the judge", 0, x.belt(0, 0));
        Check.due(24, "goal JUDGE", 0, x.belt(0, 1));
        Check.due(24, "does not stick", 0, x.belt(0, 2));
        x.stick(0);
        Check.due(24, "sticks", 1, x.belt(0, 2));
        CashRecycler y = Machines.counting(3, 6);
        y.step(4);
        Check.due(24, "kind", 3, y.belt(3, 0));
        Check.due(24, "goal ESCROW", 1, y.belt(3, 1));
        Check.due(24, "kind of a refused note", 0, y.belt(2, 0));
        Check.due(24, "goal TRAY", 8, y.belt(2, 1));
    }
}
