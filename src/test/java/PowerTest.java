/** Promise 16: power. */
public final class PowerTest {
    public static void main(String[] args) {
        answers();
        verdictsAreLost();
        stillStatesStay();
        runningStatesRecover();
        jammedStays();
        openIsClosed();
        notesBehindTheRejectBox();
        stuckNotesStayStuck();
        Check.finish();
    }

    private static void answers() {
        CashRecycler x = new CashRecycler();
        Check.due(16, "power()", false, x.power());
        Check.due(16, "power()", true, x.power());
        Check.due(16, "power()", false, x.power());
    }

    private static void verdictsAreLost() {
        CashRecycler x = new CashRecycler();
        x.verdict(1);
        x.verdict(2);
        x.power();
        Check.due(16, "verdict(3) after the cut", 1, x.verdict(3));
        x.power();
        Check.due(16, "verdict(4) when power came", 2, x.verdict(4));
        x.insert(2);
        x.deposit();
        x.step(100);
        Check.due(16, "the verdict given in the dark", 1, x.notes(0, 3));
        Check.due(16, "the one after it", 1, x.notes(0, 4));
        Check.due(16, "none of the lost ones", 0, x.notes(0, 1));
    }

    private static void blink(CashRecycler x, String what, int stateThen) {
        int before = x.state();
        x.power();
        Check.due(16, what + ": state without power", before, x.state());
        x.power();
        Check.due(16, what + ": state when power came", stateThen, x.state());
    }

    private static void stillStatesStay() {
        CashRecycler idle = new CashRecycler();
        idle.insert(2);
        blink(idle, "IDLE", Machines.IDLE);
        Check.due(16, "slot", 2, idle.notes(10, 0));
        CashRecycler escrowed = Machines.escrowed(1);
        blink(escrowed, "ESCROWED", Machines.ESCROWED);
        Check.due(16, "escrow", 1, escrowed.notes(0, 1));
        CashRecycler served = new CashRecycler();
        served.service();
        blink(served, "SERVICE", Machines.SERVICE);
        Check.due(16, "refill(0, 1) in SERVICE", 1, served.refill(0, 1));
    }

    private static void runningStatesRecover() {
        CashRecycler counting = Machines.counting(1, 2, 3);
        counting.step(6);
        blink(counting, "COUNTING", Machines.RECOVERING);
        Check.due(16, "ESCROWED after COUNTING", Machines.ESCROWED, counting.step(100));
        Check.due(16, "escrow", 1, counting.notes(0, 1));
        Check.due(16, "reject", 2, Machines.all(counting, 4));

        CashRecycler bare = Machines.counting(1);
        blink(bare, "COUNTING, nothing moved yet", Machines.RECOVERING);
        Check.due(16, "one step then", Machines.IDLE, bare.step(1));
        Check.due(16, "slot", 1, bare.notes(10, 0));

        CashRecycler storing = Machines.escrowed(1, 2);
        storing.confirm();
        storing.step(1);
        blink(storing, "STORING", Machines.RECOVERING);
        Check.due(16, "ESCROWED after STORING", Machines.ESCROWED, storing.step(100));
        Check.due(16, "reject", 1, storing.notes(4, 2));

        CashRecycler returning = Machines.escrowed(1, 2);
        returning.giveBack();
        returning.step(2);
        blink(returning, "RETURNING", Machines.RECOVERING);
        Check.due(16, "IDLE after RETURNING", Machines.IDLE, returning.step(100));
        Check.due(16, "reject", 2, Machines.all(returning, 4));

        CashRecycler paying = Machines.filled(5);
        paying.payout(4);
        paying.step(2);
        blink(paying, "PAYING", Machines.RECOVERING);
        Check.due(16, "goal", 6, paying.belt(5, 1));
        blink(paying, "RECOVERING", Machines.RECOVERING);
        Check.due(16, "IDLE after PAYING", Machines.IDLE, paying.step(100));
        Check.due(16, "the payout has ended", 3, paying.cassette(0, 0));
        Check.due(16, "payout(1)", 1, paying.payout(1));
    }

    private static void jammedStays() {
        CashRecycler x = Machines.jammed();
        blink(x, "JAMMED", Machines.JAMMED);
        Check.due(16, "goal stays", 8, x.belt(5, 1));
        Check.badState(16, "it is closed: free(5)", () -> x.free(5));
        x.open();
        Check.due(16, "the note still sticks", true, x.free(5));
    }

    private static void openIsClosed() {
        CashRecycler x = Machines.opened();
        blink(x, "open, a note sticks", Machines.JAMMED);
        Check.badState(16, "close() after power came", x::close);
        x.open();
        x.free(5);
        blink(x, "open, freed", Machines.RECOVERING);
        Check.badState(16, "remove(5) after power came", () -> x.remove(5));
        Check.due(16, "goal", 6, x.belt(5, 1));
        Check.due(16, "then", Machines.IDLE, x.step(100));

        CashRecycler dark = Machines.opened();
        dark.power();
        dark.free(5);
        Check.due(16, "state() without power", Machines.JAMMED, dark.state());
        dark.power();
        Check.due(16, "freed in the dark", Machines.RECOVERING, dark.state());
    }

    private static void notesBehindTheRejectBox() {
        CashRecycler x = Machines.filled(5);
        x.payout(5);
        x.step(5);
        Machines.shows(16, x, ".....11111");
        blink(x, "PAYING", Machines.RECOVERING);
        Machines.shows(16, x, ".....111..");
        Check.due(16, "reject at once", 2, x.notes(4, 1));
        x.step(3);
        Check.due(16, "state()", Machines.IDLE, x.state());
        Check.due(16, "reject", 5, x.notes(4, 1));
        Check.due(16, "balance()", 0, x.balance());

        CashRecycler stuck = Machines.filled(5);
        stuck.payout(1);
        stuck.step(5);
        stuck.stick(9);
        blink(stuck, "PAYING, a note sticks behind segment 7", Machines.RECOVERING);
        Check.due(16, "it is in the reject box at once too", 1, stuck.notes(4, 1));
        Check.due(16, "nothing is left to stick", Machines.IDLE, stuck.step(1));
        stuck.payout(1);
        stuck.step(5);
        Check.due(16, "the next note there does not stick", 0, stuck.belt(9, 2));
    }

    private static void stuckNotesStayStuck() {
        CashRecycler x = Machines.counting(1, 2);
        x.step(2);
        x.stick(1);
        blink(x, "COUNTING, a note sticks", Machines.RECOVERING);
        Check.due(16, "it still sticks", 1, x.belt(1, 2));
        Check.due(16, "state()", Machines.JAMMED, x.step(2));
        blink(x, "JAMMED", Machines.JAMMED);
    }
}
