/** Promises 11 to 15: stick, open, remove, free, close. */
public final class JamTest {
    public static void main(String[] args) {
        stick();
        jamNeedsTwoStepsInARow();
        jamAtTheGoal();
        jamCountsAnew();
        open();
        remove();
        free();
        close();
        closeSendsAllToReject();
        closeEndsThePayout();
        closeWithNotesInTheEscrow();
        Check.finish();
    }

    private static void stick() {
        CashRecycler x = Machines.counting(1, 2);
        Check.badArgument(11, "stick(-1)", () -> x.stick(-1));
        Check.badArgument(11, "stick(10)", () -> x.stick(10));
        Check.noSuch(11, "stick(0) without a note", () -> x.stick(0));
        x.step(2);
        Check.noSuch(11, "stick(2) without a note", () -> x.stick(2));
        x.power();
        x.stick(1);
        x.stick(1);
        Check.due(11, "belt(1, 2)", 1, x.belt(1, 2));
        Check.due(11, "belt(0, 2)", 0, x.belt(0, 2));
        x.power();
        x.step(1);
        Check.due(11, "it stays", 0, x.belt(1, 0));
        Check.due(11, "JAMMED", Machines.JAMMED, x.step(1));
        x.stick(0);
        Check.due(11, "stick(0) in JAMMED", 1, x.belt(0, 2));
    }

    private static void jamNeedsTwoStepsInARow() {
        CashRecycler x = Machines.filled(2, 2, 2, 2);
        x.payout(3);
        x.step(2);
        x.stick(5);
        Check.due(11, "one step", Machines.PAYING, x.step(1));
        Check.due(11, "two steps", Machines.JAMMED, x.step(1));
        Check.due(11, "the other note went on", 2, x.belt(8, 0));

        CashRecycler both = Machines.counting(1, 2);
        both.step(2);
        both.stick(0);
        both.step(1);
        both.stick(2);
        Check.due(11, "two notes stick, one after the other", Machines.JAMMED, both.step(1));

        CashRecycler many = Machines.counting(1);
        many.step(1);
        many.stick(0);
        Check.due(11, "step(100) stops at the jam", Machines.JAMMED, many.step(100));
    }

    private static void jamAtTheGoal() {
        CashRecycler x = Machines.filled(1);
        x.payout(1);
        x.step(5);
        x.stick(9);
        Check.due(11, "a note at its goal's segment sticks too", Machines.PAYING, x.step(1));
        Check.due(11, "it is not in the tray", 0, x.notes(5, 1));
        Check.due(11, "state()", Machines.JAMMED, x.step(1));
    }

    private static void jamCountsAnew() {
        CashRecycler x = Machines.counting(1, 2);
        x.step(2);
        x.stick(0);
        x.step(2);
        Check.due(11, "state()", Machines.JAMMED, x.state());
        x.open();
        x.free(0);
        x.close();
        x.stick(0);
        Check.due(11, "one step after the jam", Machines.RECOVERING, x.step(1));
        Check.due(11, "two steps after the jam", Machines.JAMMED, x.step(1));

        CashRecycler y = Machines.counting(1);
        y.step(1);
        y.stick(0);
        y.step(1);
        y.power();
        y.power();
        Check.due(16, "one step since power came", Machines.RECOVERING, y.step(1));
        Check.due(16, "two steps since power came", Machines.JAMMED, y.step(1));
    }

    private static void open() {
        CashRecycler x = Machines.jammed();
        x.power();
        Check.badState(12, "open() without power", x::open);
        x.power();
        x.open();
        Check.badState(12, "open() when open", x::open);
        Check.due(12, "state() when open", Machines.JAMMED, x.state());
        Check.badState(12, "open() in IDLE", () -> new CashRecycler().open());
        Check.badState(12, "open() in COUNTING", () -> Machines.counting(1).open());
        Check.badState(12, "open() in ESCROWED", () -> Machines.escrowed(1).open());
        CashRecycler served = new CashRecycler();
        served.service();
        Check.badState(12, "open() in SERVICE", served::open);
        CashRecycler again = Machines.opened();
        again.close();
        again.open();
        Check.due(12, "opened again", true, again.free(5));
        again.close();
        Check.badState(12, "open() in RECOVERING", again::open);
    }

    private static void remove() {
        CashRecycler x = Machines.counting(6, 4, 3);
        Check.badState(13, "remove(0) in COUNTING", () -> x.remove(0));
        x.step(3);
        x.stick(0);
        x.step(2);
        Check.badState(13, "remove(0), not open", () -> x.remove(0));
        Check.badState(13, "remove(10), not open", () -> x.remove(10));
        x.open();
        Check.badArgument(13, "remove(-1)", () -> x.remove(-1));
        Check.badArgument(13, "remove(10)", () -> x.remove(10));
        Check.noSuch(13, "remove(1)", () -> x.remove(1));
        Check.due(13, "remove(3)", 4, x.remove(3));
        Check.noSuch(13, "remove(3) again", () -> x.remove(3));
        Check.due(13, "remove(0), not judged", 0, x.remove(0));
        Check.due(13, "missing of kind 4", 1, x.notes(8, 4));
        Check.due(13, "missing without kind", 1, x.notes(8, 0));
        Check.due(13, "what stuck is gone", Machines.RECOVERING, x.close());
        Check.badState(13, "remove(4), closed", () -> x.remove(4));
        Check.due(13, "balance()", 0, x.balance());

        CashRecycler dark = Machines.cut(Machines.opened());
        Check.due(13, "remove(5) without power", 1, dark.remove(5));
    }

    private static void free() {
        CashRecycler x = Machines.jammed();
        Check.badState(14, "free(5), not open", () -> x.free(5));
        Check.badState(14, "free(10), not open", () -> x.free(10));
        x.open();
        Check.badArgument(14, "free(-1)", () -> x.free(-1));
        Check.badArgument(14, "free(10)", () -> x.free(10));
        Check.due(14, "free(0) without a note", false, x.free(0));
        Check.due(14, "free(5)", true, x.free(5));
        Check.due(14, "free(5) again", false, x.free(5));
        Check.due(14, "belt(5, 2)", 0, x.belt(5, 2));
        x.close();
        Check.badState(14, "free(5), closed", () -> x.free(5));
        CashRecycler dark = Machines.cut(Machines.opened());
        Check.due(14, "free(5) without power", true, dark.free(5));
    }

    private static void close() {
        Check.badState(15, "close() in IDLE", () -> new CashRecycler().close());
        CashRecycler x = Machines.jammed();
        Check.badState(15, "close(), not open", x::close);
        x.open();
        x.power();
        Check.badState(15, "close() without power", x::close);
        x.power();
        x.open();
        Check.due(15, "close(), a note still sticks", Machines.JAMMED, x.close());
        Check.badState(15, "close() again", x::close);
        x.open();
        x.free(5);
        Check.due(15, "close()", Machines.RECOVERING, x.close());
        Check.badState(15, "close() in RECOVERING", x::close);
        Check.due(15, "step(100)", Machines.IDLE, x.step(100));
        Check.due(15, "reject", 1, x.notes(4, 1));

        CashRecycler bare = Machines.opened();
        bare.remove(5);
        Check.due(15, "close() with an empty belt", Machines.RECOVERING, bare.close());
        Check.due(15, "one step then", Machines.IDLE, bare.step(1));
    }

    private static void closeSendsAllToReject() {
        CashRecycler x = Machines.filled(0, 0, 2, 3);
        x.payout(38);
        x.step(4);
        x.stick(9);
        x.step(2);
        Machines.shows(15, x, "......3444");
        x.open();
        x.free(9);
        x.stick(7);
        Check.due(15, "close(), segment 7 sticks", Machines.JAMMED, x.close());
        Check.due(15, "goals stay", 8, x.belt(8, 1));
        x.open();
        x.free(7);
        Check.due(15, "close()", Machines.RECOVERING, x.close());
        Machines.shows(15, x, "......34..");
        Check.due(15, "reject at once", 2, x.notes(4, 4));
        Check.due(15, "goal in segment 6", 6, x.belt(6, 1));
        Check.due(15, "goal in segment 7", 6, x.belt(7, 1));
        x.step(1);
        Check.due(15, "from segment 7", 3, x.notes(4, 4));
        Check.due(15, "state()", Machines.IDLE, x.step(1));
        Check.due(15, "from segment 6", 1, x.notes(4, 3));
    }

    private static void closeEndsThePayout() {
        CashRecycler x = Machines.filled(9);
        x.payout(5);
        x.step(1);
        x.stick(5);
        x.step(2);
        x.open();
        x.free(5);
        x.close();
        x.step(100);
        Check.due(15, "no more notes came", 8, x.cassette(0, 0));
        Check.due(15, "payout(2)", 2, x.payout(2));
        x.step(100);
        Check.due(15, "only the new payout's notes", 2, x.notes(5, 1));
    }

    private static void closeWithNotesInTheEscrow() {
        CashRecycler x = Machines.counting(1, 2, 3);
        x.step(7);
        x.stick(4);
        x.step(2);
        Check.due(15, "state()", Machines.JAMMED, x.state());
        x.insert(2);
        x.open();
        x.free(4);
        x.close();
        x.step(2);
        Check.due(15, "nothing comes from the slot", 2, x.notes(10, 0));
        Check.due(15, "ESCROWED after it", Machines.ESCROWED, x.step(100));
        Check.due(15, "escrow", 2, Machines.all(x, 0));
        Check.due(15, "reject", 1, x.notes(4, 3));
        Check.due(15, "the slot keeps its notes", 2, x.notes(10, 0));
        x.confirm();
        Check.due(15, "stored", Machines.IDLE, x.step(100));
        Check.due(15, "cassettes", 2, Machines.all(x, 1));
    }
}
