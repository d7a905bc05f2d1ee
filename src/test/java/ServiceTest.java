/** Promises 17 to 20: service, kind, refill, empty. */
public final class ServiceTest {
    public static void main(String[] args) {
        service();
        kind();
        refill();
        emptyCassettes();
        emptyBoxes();
        Check.finish();
    }

    private static void service() {
        CashRecycler x = new CashRecycler();
        Check.due(17, "service()", true, x.service());
        Check.due(17, "state()", Machines.SERVICE, x.state());
        Check.due(17, "service()", false, x.service());
        Check.due(17, "state()", Machines.IDLE, x.state());
        x.power();
        Check.badState(17, "service() from IDLE without power", x::service);
        x.power();
        x.service();
        x.power();
        Check.badState(17, "service() in SERVICE without power", x::service);
        Check.due(17, "state()", Machines.SERVICE, x.state());
        Check.badState(17, "service() in COUNTING", () -> Machines.counting(1).service());
        Check.badState(17, "service() in ESCROWED", () -> Machines.escrowed(1).service());
        Check.badState(17, "service() in JAMMED", () -> Machines.jammed().service());
        CashRecycler recovering = Machines.opened();
        recovering.free(5);
        recovering.close();
        Check.badState(17, "service() in RECOVERING", recovering::service);
        CashRecycler tray = Machines.escrowed(6);
        tray.confirm();
        tray.step(1);
        Check.due(17, "service() with notes in the tray", true, tray.service());
    }

    private static void kind() {
        CashRecycler x = new CashRecycler();
        Check.badState(18, "kind(0, 2) in IDLE", () -> x.kind(0, 2));
        Check.badState(18, "kind(4, 6) in IDLE", () -> x.kind(4, 6));
        x.service();
        Check.badArgument(18, "kind(-1, 1)", () -> x.kind(-1, 1));
        Check.badArgument(18, "kind(4, 1)", () -> x.kind(4, 1));
        Check.badArgument(18, "kind(0, 0)", () -> x.kind(0, 0));
        Check.badArgument(18, "kind(0, 6)", () -> x.kind(0, 6));
        x.kind(0, 5);
        x.kind(3, 5);
        x.kind(1, 2);
        Check.due(18, "cassette(0, 1)", 5, x.cassette(0, 1));
        Check.due(18, "cassette(1, 1)", 2, x.cassette(1, 1));
        Check.due(18, "cassette(2, 1)", 3, x.cassette(2, 1));
        Check.due(18, "cassette(3, 1)", 5, x.cassette(3, 1));
        x.refill(0, 1);
        Check.unsupported(18, "kind(0, 1), not empty", () -> x.kind(0, 1));
        Check.unsupported(18, "kind(0, 5), not empty", () -> x.kind(0, 5));
        Check.badArgument(18, "kind(0, 6), not empty", () -> x.kind(0, 6));
        x.power();
        Check.badState(18, "kind(1, 1) without power", () -> x.kind(1, 1));
        Check.badState(18, "kind(0, 1) without power", () -> x.kind(0, 1));
        x.power();
        x.empty(0);
        x.kind(0, 1);
        Check.due(18, "cassette(0, 1) once emptied", 1, x.cassette(0, 1));
        Check.due(18, "emptied notes keep their kind", 1, x.notes(7, 5));
    }

    private static void refill() {
        CashRecycler x = new CashRecycler();
        Check.badState(19, "refill(0, 1) in IDLE", () -> x.refill(0, 1));
        Check.badState(19, "refill(4, 0) in IDLE", () -> x.refill(4, 0));
        x.service();
        Check.badArgument(19, "refill(-1, 1)", () -> x.refill(-1, 1));
        Check.badArgument(19, "refill(4, 1)", () -> x.refill(4, 1));
        Check.badArgument(19, "refill(0, 0)", () -> x.refill(0, 0));
        Check.badArgument(19, "refill(0, -5)", () -> x.refill(0, -5));
        Check.badArgument(19, "refill(0, 31)", () -> x.refill(0, 31));
        Check.badArgument(19, "refill(0, MIN)", () -> x.refill(0, Integer.MIN_VALUE));
        Check.due(19, "refill(0, 29)", 29, x.refill(0, 29));
        Check.badArgument(19, "refill(0, 2) to 31", () -> x.refill(0, 2));
        Check.badArgument(19, "refill(0, MAX)", () -> x.refill(0, Integer.MAX_VALUE));
        Check.due(19, "refill(0, 1)", 30, x.refill(0, 1));
        Check.badArgument(19, "refill(0, 1) to 31", () -> x.refill(0, 1));
        x.kind(2, 5);
        Check.due(19, "refill(2, 7)", 7, x.refill(2, 7));
        Check.due(19, "came in of kind 1", 30, x.notes(9, 1));
        Check.due(19, "came in of kind 5", 7, x.notes(9, 5));
        Check.due(19, "cassettes of kind 5", 7, x.notes(1, 5));
        x.power();
        Check.badState(19, "refill(1, 1) without power", () -> x.refill(1, 1));
        Check.due(19, "balance()", 0, x.balance());
    }

    private static void emptyCassettes() {
        CashRecycler x = new CashRecycler();
        Check.badState(20, "empty(0) in IDLE", () -> x.empty(0));
        Check.badState(20, "empty(6) in IDLE", () -> x.empty(6));
        x.service();
        Check.badArgument(20, "empty(-1)", () -> x.empty(-1));
        Check.badArgument(20, "empty(6)", () -> x.empty(6));
        for (int place = 0; place <= 5; place++) {
            Check.due(20, "empty(" + place + ") of nothing", 0, x.empty(place));
        }
        x.refill(3, 12);
        x.refill(0, 5);
        Check.due(20, "empty(3)", 12, x.empty(3));
        Check.due(20, "empty(3) again", 0, x.empty(3));
        Check.due(20, "emptied of kind 4", 12, x.notes(7, 4));
        Check.due(20, "cassette 0 is not touched", 5, x.cassette(0, 0));
        x.power();
        Check.badState(20, "empty(0) without power", () -> x.empty(0));
        Check.due(20, "balance()", 0, x.balance());
    }

    private static void emptyBoxes() {
        CashRecycler x = Machines.escrowed(5, 5, 1);
        x.confirm();
        x.step(100);
        x.insert(2);
        x.verdict(3);
        x.deposit();
        x.step(3);
        x.power();
        x.power();
        x.step(100);
        Check.due(20, "reject, one without kind", 2, Machines.all(x, 4));
        x.service();
        Check.due(20, "empty(4)", 2, x.empty(4));
        Check.due(20, "emptied of kind 5", 2, x.notes(7, 5));
        Check.due(20, "reject is not touched", 1, x.notes(4, 3));
        Check.due(20, "empty(5)", 2, x.empty(5));
        Check.due(20, "emptied of kind 3", 1, x.notes(7, 3));
        Check.due(20, "emptied without kind", 1, x.notes(7, 0));
        Check.due(20, "reject", 0, Machines.all(x, 4));
        Check.due(20, "overflow", 0, Machines.all(x, 2));
        Check.due(20, "cassette 0", 1, x.cassette(0, 0));
        Check.due(20, "balance()", 0, x.balance());
    }
}
