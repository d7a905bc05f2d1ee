/** Promises 21 to 23 and 25: state, notes, cassette, balance. */
public final class AnswersTest {
    public static void main(String[] args) {
        states();
        notesRefusals();
        oneNoteThroughAllPlaces();
        kindlessNotes();
        cassette();
        balance();
        Check.finish();
    }

    private static void states() {
        CashRecycler x = new CashRecycler();
        Check.due(21, "IDLE", 0, x.state());
        x.insert(1);
        x.verdict(1);
        x.deposit();
        Check.due(21, "COUNTING", 1, x.state());
        x.step(100);
        Check.due(21, "ESCROWED", 2, x.state());
        x.confirm();
        Check.due(21, "STORING", 3, x.state());
        CashRecycler y = Machines.escrowed(1);
        y.giveBack();
        Check.due(21, "RETURNING", 4, y.state());
        x.step(100);
        x.payout(1);
        Check.due(21, "PAYING", 5, x.state());
        x.step(1);
        x.stick(5);
        x.step(2);
        Check.due(21, "JAMMED", 6, x.state());
        x.open();
        x.free(5);
        x.close();
        Check.due(21, "RECOVERING", 7, x.state());
        x.step(100);
        x.service();
        Check.due(21, "SERVICE", 8, x.state());
        x.power();
        Check.due(21, "SERVICE without power", 8, x.state());
    }

    private static void notesRefusals() {
        CashRecycler x = new CashRecycler();
        Check.badArgument(22, "notes(-1, 0)", () -> x.notes(-1, 0));
        Check.badArgument(22, "notes(11, 0)", () -> x.notes(11, 0));
        Check.badArgument(22, "notes(0, -1)", () -> x.notes(0, -1));
        Check.badArgument(22, "notes(0, 6)", () -> x.notes(0, 6));
        Check.badArgument(22, "notes(10, 6)", () -> x.notes(10, 6));
        Check.badArgument(22, "notes(MAX, MIN)", () -> x.notes(Integer.MAX_VALUE, Integer.MIN_VALUE));
    }

    /** One note of kind 3: it must be in one place alone, and have come in once it is judged. */
    private static void onlyIn(CashRecycler x, int place) {
        for (int p = 0; p <= 8; p++) {
            for (int kind = 0; kind <= 5; kind++) {
                Check.due(22, "notes(" + p + ", " + kind + ")", p == place && kind == 3 ? 1 : 0,
                        x.notes(p, kind));
            }
        }
        Check.due(22, "notes(9, 3)", 1, x.notes(9, 3));
        Check.due(22, "notes(10, 0)", 0, x.notes(10, 0));
        Check.due(25, "balance()", 0, x.balance());
    }

    private static void oneNoteThroughAllPlaces() {
        CashRecycler x = Machines.counting(3);
        Check.due(22, "slot", 1, x.notes(Machines.IN_SLOT, 0));
        Check.due(22, "slot of kind 3", 0, x.notes(Machines.IN_SLOT, 3));
        x.step(2);
        Check.due(22, "belt, not judged", 1, x.notes(Machines.ON_BELT, 0));
        Check.due(22, "not in yet", 0, x.notes(Machines.CAME_IN, 3));
        x.step(1);
        onlyIn(x, Machines.ON_BELT);
        x.step(3);
        onlyIn(x, Machines.IN_ESCROW);
        x.confirm();
        x.step(100);
        onlyIn(x, Machines.IN_CASSETTES);
        x.payout(4);
        x.step(100);
        onlyIn(x, Machines.IN_TRAY);
        x.taken();
        onlyIn(x, Machines.TAKEN);

        CashRecycler over = Machines.escrowed(3);
        over.giveBack();
        over.step(2);
        over.power();
        over.power();
        over.step(100);
        onlyIn(over, Machines.IN_REJECT);
        over.service();
        over.empty(5);
        onlyIn(over, Machines.EMPTIED);

        CashRecycler lost = Machines.counting(3);
        lost.step(4);
        lost.stick(3);
        lost.step(2);
        lost.open();
        lost.remove(3);
        onlyIn(lost, Machines.MISSING);

        CashRecycler none = new CashRecycler();
        none.service();
        none.kind(2, 1);
        none.service();
        Machines.startCounting(none, 3);
        none.step(100);
        none.confirm();
        none.step(100);
        onlyIn(none, Machines.IN_OVERFLOW);
    }

    private static void kindlessNotes() {
        CashRecycler x = Machines.counting(6, 0, 6);
        x.step(1);
        Check.due(22, "notes(3, 0)", 1, x.notes(3, 0));
        x.step(100);
        Check.due(22, "notes(5, 0)", 3, x.notes(5, 0));
        Check.due(22, "notes(9, 0)", 0, x.notes(9, 0));
        Check.due(25, "balance() with notes without kind", 0, x.balance());
    }

    private static void cassette() {
        CashRecycler x = Machines.filled(1, 2, 3, 4);
        for (int c = 0; c < 4; c++) {
            Check.due(23, "cassette(" + c + ", 0)", c + 1, x.cassette(c, 0));
            Check.due(23, "cassette(" + c + ", 1)", c + 1, x.cassette(c, 1));
        }
        Check.badArgument(23, "cassette(-1, 0)", () -> x.cassette(-1, 0));
        Check.badArgument(23, "cassette(4, 0)", () -> x.cassette(4, 0));
        Check.badArgument(23, "cassette(0, -1)", () -> x.cassette(0, -1));
        Check.badArgument(23, "cassette(0, 2)", () -> x.cassette(0, 2));
        CashRecycler twice = Machines.withKinds(2, 5, 2, 6);
        Check.due(22, "two cassettes of one kind", 11, twice.notes(1, 2));
    }

    private static void balance() {
        CashRecycler x = Machines.filled(5, 5, 5, 5);
        Check.due(25, "balance()", 0, x.balance());
        x.payout(17);
        for (int i = 0; i < 12; i++) {
            x.step(1);
            Check.due(25, "balance() in a payout", 0, x.balance());
        }
    }
}
