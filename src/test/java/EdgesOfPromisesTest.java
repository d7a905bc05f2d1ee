/**
 * The boundary cases of the promises' own sentences: too small, too large, empty, full, a
 * wrap-around. The sentence stands above its test; refusals by the state are in RefusalsTest.
 */
public final class EdgesOfPromisesTest {
    private static final int MIN = Integer.MIN_VALUE;
    private static final int MAX = Integer.MAX_VALUE;

    public static void main(String[] args) {
        newObject();
        insertOneToTwenty();
        slotOfForty();
        verdictsZeroToSix();
        fortyVerdicts();
        verdictsGoRound();
        depositNeedsANoteAndAnEmptyTray();
        escrowedWithNothingIsConfirmedOrGivenBack();
        payoutOneToFourHundred();
        payoutNeedsAnEmptyTray();
        payoutWithoutAPlan();
        planArguments();
        planIfThereIsNone();
        stepOneToHundred();
        takenOfAnEmptyTray();
        stickSegments();
        stickWithoutANote();
        removeSegments();
        removeWithoutANote();
        freeSegments();
        freeWhatDoesNotStick();
        closeTells();
        powerComesIfItWasCut();
        powerClosesWhatWasOpen();
        serviceBeginsAndEnds();
        kindArguments();
        kindOfACassetteThatIsNotEmpty();
        refillArguments();
        refillToThirty();
        emptyPlaces();
        emptyOfNothing();
        notesArguments();
        notesWithoutKind();
        cassetteArguments();
        beltArguments();
        beltWithoutANote();
        Check.finish();
    }

    // Promise 1: "All empty, IDLE, power on."
    private static void newObject() {
        String due = "state 0, balance 0, notes" + " 0,0,0,0,0,0".repeat(11)
                + ", cassettes 0 of 1 0 of 2 0 of 3 0 of 4, belt" + " -1,-1,-1".repeat(10);
        CashRecycler x = new CashRecycler();
        Check.same(1, "a new object", due, Machines.snapshot(x));
        Check.due(1, "no verdict waits", 1, x.verdict(6));
        Check.due(1, "power is on", true, x.service());
        Check.same(1, "another new object", due, Machines.snapshot(new CashRecycler()));
    }

    // Promise 2: "So many notes (1 .. 20) come into the slot ... IllegalArgumentException for other
    // numbers"
    private static void insertOneToTwenty() {
        CashRecycler x = new CashRecycler();
        Check.refusesEach(2, "insert", x::insert, MIN, -1, 0, 21, 41, MAX);
        Check.due(2, "slot after refusals", 0, x.notes(Machines.IN_SLOT, 0));
        Check.due(2, "insert(1)", 1, x.insert(1));
        Check.due(2, "insert(20)", 21, x.insert(20));
    }

    // Promise 2: "which then has at most 40 ... IllegalStateException if there would be more than 40"
    private static void slotOfForty() {
        for (int n = 1; n <= 20; n++) {
            int more = n;
            CashRecycler x = new CashRecycler();
            Machines.insertAll(x, 41 - n);
            Check.badState(2, "insert(" + n + ") to 41", () -> x.insert(more));
            Check.due(2, "slot after the refusal", 41 - n, x.notes(Machines.IN_SLOT, 0));
        }
        CashRecycler x = new CashRecycler();
        x.insert(20);
        Check.due(2, "insert(20) to 40", 40, x.insert(20));
        Check.badArgument(2, "insert(0), slot full", () -> x.insert(0));
        x.deposit();
        x.step(1);
        Check.due(2, "insert(1), one has come onto the belt", 40, x.insert(1));
        Check.badState(2, "insert(1) to 41", () -> x.insert(1));
    }

    // Promise 3: "(0 .. 6; 0 as 6; with or without power) ... IllegalArgumentException if there is
    // no such verdict"
    private static void verdictsZeroToSix() {
        CashRecycler x = new CashRecycler();
        Check.refusesEach(3, "verdict", x::verdict, MIN, -1, 7, MAX);
        Check.due(3, "verdict(0)", 1, x.verdict(0));
        Check.due(3, "verdict(6)", 2, x.verdict(6));
        x.power();
        Check.refusesEach(3, "verdict without power", x::verdict, -1, 7);
        Check.due(3, "verdict(0) without power", 1, x.verdict(0));
        Check.due(3, "verdict(6) without power", 2, x.verdict(6));
        Check.due(3, "verdict(5) without power", 3, x.verdict(5));
        x.power();
        x.insert(3);
        x.deposit();
        x.step(100);
        Check.due(3, "0 and 6 alike: tray", 2, x.notes(Machines.IN_TRAY, 0));
        Check.due(3, "escrow", 1, x.notes(Machines.IN_ESCROW, 5));
    }

    // Promise 3: "IllegalStateException if 40 wait"
    private static void fortyVerdicts() {
        CashRecycler x = new CashRecycler();
        Machines.verdicts(x, 39, 1);
        Check.due(3, "the fortieth", 40, x.verdict(1));
        Check.badState(3, "the next", () -> x.verdict(1));
        Check.badArgument(3, "no verdict at all, 40 wait", () -> x.verdict(7));
        x.insert(1);
        x.deposit();
        x.step(2);
        Check.badState(3, "none is used yet", () -> x.verdict(2));
        x.step(1);
        Check.due(3, "one is used", 40, x.verdict(2));
        x.power();
        Machines.verdicts(x, 40, 3);
        Check.badState(3, "40 wait without power", () -> x.verdict(3));
    }

    // Promise 3: "A verdict more waits", more than 40 of them one after the other
    private static void verdictsGoRound() {
        CashRecycler x = new CashRecycler();
        Machines.verdicts(x, 30, 6);
        for (int i = 0; i < 10; i++) {
            x.verdict(1 + i % 5);
        }
        Machines.insertAll(x, 40);
        x.deposit();
        x.step(32);
        Check.due(3, "30 are used, 10 wait", 11, x.verdict(3));
        Machines.verdicts(x, 29, 3);
        Check.badState(3, "40 wait", () -> x.verdict(3));
        x.step(1);
        int[] kinds = {1, 2, 3, 4, 5, 1, 2, 3, 4, 5};
        for (int i = 0; i < kinds.length; i++) {
            Check.due(3, "verdict no. " + (31 + i), kinds[i], x.belt(2, 0));
            x.step(1);
        }
        x.step(100);
        x.giveBack();
        x.step(100);
        x.taken();
        x.insert(2);
        x.deposit();
        x.step(3);
        Check.due(3, "verdict no. 41", 3, x.belt(2, 0));
        Check.due(3, "29 wait", 30, x.verdict(3));
    }

    // Promise 4: "IllegalStateException if ... the slot empty, or the tray not"
    private static void depositNeedsANoteAndAnEmptyTray() {
        CashRecycler x = new CashRecycler();
        Check.badState(4, "deposit(), slot empty", x::deposit);
        x.insert(1);
        x.deposit();
        Check.due(4, "one note is enough", Machines.COUNTING, x.state());
        x.step(100);
        x.confirm();
        x.step(1);
        x.insert(1);
        Check.badState(4, "deposit(), one note in the tray", x::deposit);
        x.taken();
        x.deposit();
        Check.due(4, "deposit(), tray emptied", Machines.COUNTING, x.state());
    }

    // Promises 5 and 6: "STORING begins", "RETURNING begins", of an escrow with nothing in it
    private static void escrowedWithNothingIsConfirmedOrGivenBack() {
        CashRecycler stored = Machines.escrowed(6);
        stored.confirm();
        Check.due(5, "confirm()", Machines.STORING, stored.state());
        Check.badState(5, "confirm() again", stored::confirm);
        Check.badState(6, "giveBack() after it", stored::giveBack);
        CashRecycler returned = Machines.escrowed(6);
        returned.giveBack();
        Check.due(6, "giveBack()", Machines.RETURNING, returned.state());
        Check.badState(6, "giveBack() again", returned::giveBack);
        Check.badState(5, "confirm() after it", returned::confirm);
    }

    // Promise 7: "IllegalArgumentException if the amount is not 1 .. 400"
    private static void payoutOneToFourHundred() {
        CashRecycler x = Machines.withKinds(5, 30, 1, 30);
        Check.refusesEach(7, "payout", x::payout, MIN, -20, -1, 0, 401, 420, MAX);
        Check.due(7, "state() after refusals", Machines.IDLE, x.state());
        Check.due(7, "payout(400)", 20, x.payout(400));
        x.step(100);
        x.taken();
        Check.due(7, "payout(1)", 1, x.payout(1));
    }

    // Promise 7: "IllegalStateException if ... the tray is not empty"
    private static void payoutNeedsAnEmptyTray() {
        CashRecycler x = Machines.filled(9);
        x.payout(1);
        x.step(100);
        Check.badState(7, "payout(1), one note in the tray", () -> x.payout(1));
        Check.badState(7, "payout(400), no plan and a note in the tray", () -> x.payout(400));
        x.taken();
        Check.due(7, "payout(1), tray emptied", 1, x.payout(1));
        CashRecycler refused = Machines.filled(9);
        Machines.startCounting(refused, 6);
        refused.step(100);
        refused.confirm();
        refused.step(1);
        Check.badState(7, "payout(1), a note without kind in the tray", () -> refused.payout(1));
    }

    // Promise 7: "UnsupportedOperationException if there is no plan"
    private static void payoutWithoutAPlan() {
        Check.unsupported(7, "payout(1) of nothing", () -> new CashRecycler().payout(1));
        CashRecycler x = Machines.filled(3, 0, 1);
        Check.unsupported(7, "payout(8), one more than there is", () -> x.payout(8));
        Check.due(7, "state() after the refusal", Machines.IDLE, x.state());
        Check.due(7, "payout(7), all that there is", 4, x.payout(7));
        x.step(100);
        x.taken();
        Check.unsupported(7, "payout(1) of cassettes paid empty", () -> x.payout(1));
    }

    // Promise 8: "IllegalArgumentException if there is no such kind, or the amount is not 1 .. 400"
    private static void planArguments() {
        CashRecycler x = Machines.withKinds(5, 30, 1, 30);
        Check.refusesEach(8, "plan of an amount", amount -> x.plan(amount, 1), MIN, -1, 0, 401, MAX);
        Check.refusesEach(8, "plan of a kind", kind -> x.plan(1, kind), MIN, -1, 0, 6, MAX);
        Check.due(8, "plan(1, 1)", 1, x.plan(1, 1));
        Check.due(8, "plan(1, 5)", 0, x.plan(1, 5));
        Check.due(8, "plan(400, 1)", 0, x.plan(400, 1));
        Check.due(8, "plan(400, 5)", 20, x.plan(400, 5));
    }

    // Promise 8: "-1 if there is no plan"
    private static void planIfThereIsNone() {
        CashRecycler x = new CashRecycler();
        for (int kind = 1; kind <= 5; kind++) {
            Check.due(8, "plan(1, " + kind + ") of nothing", -1, x.plan(1, kind));
            Check.due(8, "plan(400, " + kind + ") of nothing", -1, x.plan(400, kind));
        }
        Check.badArgument(8, "plan(0, 1) of nothing", () -> x.plan(0, 1));
        CashRecycler rich = Machines.withKinds(3, 30, 4, 30, 5, 30);
        int[] unpayable = {1, 2, 3, 5, 6, 7, 9, 11, 13, 15, 399};
        for (int amount : unpayable) {
            for (int kind = 1; kind <= 5; kind++) {
                Check.due(8, "plan(" + amount + ", " + kind + ") of fours, tens and twenties", -1,
                        rich.plan(amount, kind));
            }
        }
    }

    // Promise 9: "So many steps (1 .. 100): the state then. IllegalArgumentException for other numbers."
    private static void stepOneToHundred() {
        CashRecycler x = slowCount();
        Check.refusesEach(9, "step", x::step, MIN, -1, 0, 101, MAX);
        Check.due(9, "slot after refusals", 40, x.notes(Machines.IN_SLOT, 0));
        x.step(1);
        Check.due(9, "slot after step(1)", 39, x.notes(Machines.IN_SLOT, 0));
        // From step 24 on a note comes every tenth step: at 94, 104 and so on.
        CashRecycler hundred = slowCount();
        Check.due(9, "step(100)", Machines.COUNTING, hundred.step(100));
        Check.due(9, "the note that came at step 94 has made six", 0, hundred.belt(6, 0));
        CashRecycler parts = slowCount();
        parts.step(37);
        parts.step(63);
        Check.same(9, "step(37) and step(63) as step(100)", Machines.snapshot(hundred), Machines.snapshot(parts));
        Check.badArgument(9, "step(0) in IDLE", () -> new CashRecycler().step(0));
        Check.badArgument(9, "step(101) in IDLE", () -> new CashRecycler().step(101));
    }

    /** 23 notes for the escrow, then 17 refused ones that must cross the belt one by one. */
    private static CashRecycler slowCount() {
        CashRecycler x = new CashRecycler();
        Machines.insertAll(x, 40);
        Machines.verdicts(x, 23, 1);
        x.deposit();
        return x;
    }

    // Promise 10: "The tray is emptied: how many notes it had."
    private static void takenOfAnEmptyTray() {
        CashRecycler x = new CashRecycler();
        Check.due(10, "taken() of nothing", 0, x.taken());
        Machines.insertAll(x, 40);
        Machines.verdicts(x, 40, 1);
        x.deposit();
        x.step(100);
        x.giveBack();
        x.step(100);
        Check.due(10, "taken() of 24 and 16 without kind", 40, x.taken());
        Check.due(10, "taken() again", 0, x.taken());
        Check.due(10, "taken of kind 1", 24, x.notes(Machines.TAKEN, 1));
        Check.due(10, "taken without kind", 16, x.notes(Machines.TAKEN, 0));
    }

    // Promise 11: "IllegalArgumentException if there is no such segment"
    private static void stickSegments() {
        CashRecycler x = Machines.countingMany(12, 6);
        x.step(10);
        Check.refusesEach(11, "stick", x::stick, MIN, -1, 10, MAX);
        x.stick(0);
        x.stick(9);
        for (int s = 0; s < 10; s++) {
            Check.due(11, "belt(" + s + ", 2)", s == 0 || s == 9 ? 1 : 0, x.belt(s, 2));
        }
    }

    // Promise 11: "NoSuchElementException if there is no note"
    private static void stickWithoutANote() {
        CashRecycler x = new CashRecycler();
        for (int s = 0; s < 10; s++) {
            int segment = s;
            Check.noSuch(11, "stick(" + s + ") of an empty belt", () -> x.stick(segment));
        }
        x.insert(1);
        x.deposit();
        x.step(1);
        x.stick(0);
        Check.noSuch(11, "stick(1) beside a note", () -> x.stick(1));
        CashRecycler passed = Machines.counting(6);
        passed.step(10);
        Check.noSuch(11, "stick(8), the note has gone on", () -> passed.stick(8));
        passed.step(1);
        Check.noSuch(11, "stick(9), the note is in the tray", () -> passed.stick(9));
    }

    /** Open, a note without kind in every segment, that in segment 9 stuck. */
    private static CashRecycler fullAndOpen() {
        CashRecycler x = Machines.countingMany(14, 6);
        x.step(10);
        x.stick(9);
        x.step(2);
        x.open();
        return x;
    }

    // Promise 13: "IllegalArgumentException if there is no such segment"
    private static void removeSegments() {
        CashRecycler x = fullAndOpen();
        Check.refusesEach(13, "remove", x::remove, MIN, -1, 10, MAX);
        Check.due(13, "belt after refusals", 10, Machines.all(x, Machines.ON_BELT));
        Check.due(13, "remove(0)", 0, x.remove(0));
        Check.due(13, "remove(9)", 0, x.remove(9));
        Machines.shows(13, x, ".00000000.");
    }

    // Promise 13: "NoSuchElementException if there is no note"
    private static void removeWithoutANote() {
        CashRecycler x = fullAndOpen();
        for (int s = 0; s < 10; s++) {
            int segment = s;
            x.remove(s);
            Check.noSuch(13, "remove(" + s + ") again", () -> x.remove(segment));
        }
        Check.due(13, "missing", 10, x.notes(Machines.MISSING, 0));
    }

    // Promise 14: "IllegalArgumentException if there is no such segment"
    private static void freeSegments() {
        CashRecycler x = fullAndOpen();
        Check.refusesEach(14, "free", x::free, MIN, -1, 10, MAX);
        x.stick(0);
        Check.due(14, "free(0)", true, x.free(0));
        Check.due(14, "free(9)", true, x.free(9));
        Check.due(14, "close()", Machines.RECOVERING, x.close());
    }

    // Promise 14: "A note sticks no more: whether it did."
    private static void freeWhatDoesNotStick() {
        CashRecycler x = fullAndOpen();
        for (int s = 0; s < 9; s++) {
            Check.due(14, "free(" + s + ") of one that does not stick", false, x.free(s));
        }
        Check.due(14, "free(9)", true, x.free(9));
        Check.due(14, "free(9) again", false, x.free(9));
        x.remove(9);
        Check.due(14, "free(9) without a note", false, x.free(9));
        x.stick(8);
        x.remove(8);
        Check.due(14, "free(8), what stuck is gone", false, x.free(8));
    }

    // Promise 15: "It is closed: the state then."
    private static void closeTells() {
        CashRecycler x = Machines.opened();
        Check.due(15, "close(), a note sticks", Machines.JAMMED, x.close());
        Check.badState(15, "close() again", x::close);
        x.open();
        x.free(5);
        x.stick(5);
        Check.due(15, "close(), freed and stuck again", Machines.JAMMED, x.close());
        x.open();
        x.free(5);
        Check.due(15, "close(), freed", Machines.RECOVERING, x.close());
        Check.badState(15, "close() again", x::close);
    }

    // Promise 16: "Power is cut, or comes (if it was): whether it is there then."
    private static void powerComesIfItWasCut() {
        CashRecycler x = new CashRecycler();
        Check.due(16, "cut", false, x.power());
        Check.badState(16, "service() without power", x::service);
        Check.due(16, "comes", true, x.power());
        Check.due(16, "service() with power", true, x.service());
        Check.due(16, "cut", false, x.power());
    }

    // Promise 16: "If it was open, it is closed, as if by close() when it comes."
    private static void powerClosesWhatWasOpen() {
        CashRecycler stuck = fullAndOpen();
        Machines.blink(stuck);
        Check.due(16, "a note still sticks", Machines.JAMMED, stuck.state());
        Check.badState(16, "it is closed", stuck::close);
        Machines.shows(16, stuck, "0000000000");
        stuck.open();
        stuck.free(9);
        Machines.blink(stuck);
        Check.due(16, "nothing sticks", Machines.RECOVERING, stuck.state());
        Check.badState(16, "it is closed", stuck::close);
        Machines.shows(16, stuck, "00000000..");
        Check.due(16, "reject", 2, stuck.notes(Machines.IN_REJECT, 0));
        CashRecycler bare = Machines.opened();
        bare.remove(5);
        Machines.blink(bare);
        Check.due(16, "an empty belt", Machines.RECOVERING, bare.state());
        Check.due(16, "one step then", Machines.IDLE, bare.step(1));
    }

    // Promise 17: "SERVICE begins from IDLE, and ends: whether it is in SERVICE then."
    private static void serviceBeginsAndEnds() {
        CashRecycler x = new CashRecycler();
        for (int i = 0; i < 6; i++) {
            Check.due(17, "service() no. " + i, i % 2 == 0, x.service());
            Check.due(17, "state()", i % 2 == 0 ? Machines.SERVICE : Machines.IDLE, x.state());
        }
    }

    // Promise 18: "IllegalArgumentException if there is no such cassette or kind"
    private static void kindArguments() {
        CashRecycler x = new CashRecycler();
        x.service();
        Check.refusesEach(18, "kind of a cassette", c -> x.kind(c, 1), MIN, -1, 4, MAX);
        Check.refusesEach(18, "kind", kind -> x.kind(0, kind), MIN, -1, 0, 6, MAX);
        for (int c = 0; c < 4; c++) {
            Check.due(18, "kind after refusals", c + 1, x.cassette(c, 1));
        }
        for (int kind = 1; kind <= 5; kind++) {
            x.kind(0, kind);
            x.kind(3, 6 - kind);
            Check.due(18, "cassette(0, 1)", kind, x.cassette(0, 1));
            Check.due(18, "cassette(3, 1)", 6 - kind, x.cassette(3, 1));
        }
    }

    // Promise 18: "UnsupportedOperationException if it is not empty"
    private static void kindOfACassetteThatIsNotEmpty() {
        for (int c = 0; c < 4; c++) {
            int cassette = c;
            CashRecycler x = new CashRecycler();
            x.service();
            x.refill(c, 1);
            Check.unsupported(18, "kind, one note in it", () -> x.kind(cassette, 5));
            Check.unsupported(18, "kind that it has, one note in it", () -> x.kind(cassette, cassette + 1));
            Check.badArgument(18, "no kind, one note in it", () -> x.kind(cassette, 6));
            Check.due(18, "kind after the refusal", c + 1, x.cassette(c, 1));
            x.kind((c + 1) % 4, 5);
            Check.due(18, "the next one is empty", 5, x.cassette((c + 1) % 4, 1));
            x.empty(c);
            x.kind(c, 5);
            Check.due(18, "emptied", 5, x.cassette(c, 1));
        }
        CashRecycler paid = Machines.filled(1);
        paid.payout(1);
        paid.step(100);
        paid.service();
        paid.kind(0, 2);
        Check.due(18, "paid empty", 2, paid.cassette(0, 1));
    }

    // Promise 19: "IllegalArgumentException if there is no such cassette, n is below 1"
    private static void refillArguments() {
        CashRecycler x = new CashRecycler();
        x.service();
        Check.refusesEach(19, "refill of a cassette", c -> x.refill(c, 1), MIN, -1, 4, MAX);
        Check.refusesEach(19, "refill of a number", n -> x.refill(0, n), MIN, -1, 0);
        Check.due(19, "cassettes after refusals", 0, Machines.all(x, Machines.IN_CASSETTES));
        Check.due(19, "refill(0, 1)", 1, x.refill(0, 1));
        Check.due(19, "refill(3, 1)", 1, x.refill(3, 1));
        Check.refusesEach(19, "refill of a number, not empty", n -> x.refill(0, n), -1, 0);
        Check.due(19, "came in", 2, Machines.all(x, Machines.CAME_IN));
    }

    // Promise 19: "... or there would be more than 30"
    private static void refillToThirty() {
        for (int c = 0; c < 4; c++) {
            int cassette = c;
            CashRecycler x = new CashRecycler();
            x.service();
            Check.refusesEach(19, "refill", n -> x.refill(cassette, n), 31, 32, MAX - 1, MAX);
            Check.due(19, "refill to 29", 29, x.refill(c, 29));
            // A sum of these and what is there would go round to a number below 30.
            Check.refusesEach(19, "refill, 29 there", n -> x.refill(cassette, n), 2, 30, MAX - 28, MAX);
            Check.due(19, "refill to 30", 30, x.refill(c, 1));
            Check.refusesEach(19, "refill, 30 there", n -> x.refill(cassette, n), 1, MAX);
            Check.due(19, "came in", 30, x.notes(Machines.CAME_IN, c + 1));
            x.empty(c);
            Check.due(19, "refill(30) once emptied", 30, x.refill(c, 30));
        }
    }

    // Promise 20: "A cassette (0 .. 3), the overflow (4) or the reject box (5) ...
    // IllegalArgumentException if there is no such place."
    private static void emptyPlaces() {
        CashRecycler x = Machines.filled(30, 2, 3, 4);
        Machines.startCounting(x, 5, 5);
        x.step(100);
        x.confirm();
        x.step(100);
        Machines.startCounting(x, 6, 6, 6, 6, 6);
        x.step(5);
        Machines.blink(x);
        x.step(100);
        x.service();
        Check.refusesEach(20, "empty", x::empty, MIN, -1, 6, MAX);
        int[] due = {30, 2, 3, 4, 2, 5};
        for (int place = 0; place <= 5; place++) {
            Check.due(20, "empty(" + place + ")", due[place], x.empty(place));
            Check.due(20, "empty(" + place + ") again", 0, x.empty(place));
        }
        Check.due(20, "emptied", 46, Machines.all(x, Machines.EMPTIED));
        Check.due(20, "balance()", 0, x.balance());
    }

    // Promise 20: "is EMPTIED: how many notes it had", of a place with nothing in it
    private static void emptyOfNothing() {
        CashRecycler x = new CashRecycler();
        x.service();
        for (int place = 0; place <= 5; place++) {
            Check.due(20, "empty(" + place + ") of nothing", 0, x.empty(place));
        }
        Check.due(20, "emptied", 0, Machines.all(x, Machines.EMPTIED));
    }

    // Promise 22: "IllegalArgumentException if there is no such place or kind."
    private static void notesArguments() {
        CashRecycler x = new CashRecycler();
        for (int k = 0; k <= 5; k++) {
            int kind = k;
            Check.refusesEach(22, "notes of a place", place -> x.notes(place, kind), MIN, -1, 11, MAX);
        }
        for (int p = 0; p <= 10; p++) {
            int place = p;
            Check.refusesEach(22, "notes of a kind", kind -> x.notes(place, kind), MIN, -1, 6, MAX);
        }
    }

    // Promise 22: "9 that came in (0 for kind 0); 10 the slot (kind 0 alone; 0 for others)"
    private static void notesWithoutKind() {
        CashRecycler x = Machines.counting(6, 6, 6, 6);
        for (int kind = 0; kind <= 5; kind++) {
            Check.due(22, "notes(10, " + kind + ")", kind == 0 ? 4 : 0, x.notes(10, kind));
        }
        x.step(12);
        Check.due(22, "belt without kind", 2, x.notes(3, 0));
        Check.due(22, "tray without kind", 2, x.notes(5, 0));
        x.taken();
        Check.due(22, "taken without kind", 2, x.notes(6, 0));
        x.stick(9);
        x.step(2);
        x.open();
        x.remove(9);
        Check.due(22, "missing without kind", 1, x.notes(8, 0));
        x.close();
        Check.due(22, "reject without kind", 1, x.notes(4, 0));
        x.step(1);
        x.service();
        x.empty(5);
        Check.due(22, "emptied without kind", 1, x.notes(7, 0));
        Check.due(22, "came in without kind", 0, x.notes(9, 0));
        Check.due(25, "balance()", 0, x.balance());
    }

    // Promise 23: "IllegalArgumentException if there is no such cassette or what."
    private static void cassetteArguments() {
        CashRecycler x = Machines.filled(1, 2, 3, 30);
        Check.refusesEach(23, "cassette", c -> x.cassette(c, 0), MIN, -1, 4, MAX);
        Check.refusesEach(23, "cassette, its kind", c -> x.cassette(c, 1), MIN, -1, 4, MAX);
        Check.refusesEach(23, "cassette, what", what -> x.cassette(0, what), MIN, -1, 2, MAX);
        Check.due(23, "cassette(0, 0)", 1, x.cassette(0, 0));
        Check.due(23, "cassette(3, 0)", 30, x.cassette(3, 0));
        Check.due(23, "cassette(3, 1)", 4, x.cassette(3, 1));
    }

    // Promise 24: "IllegalArgumentException if there is no such segment or what."
    private static void beltArguments() {
        CashRecycler x = Machines.countingMany(10, 6);
        Check.refusesEach(24, "belt, what of an empty segment", what -> x.belt(0, what), MIN, -1, 3, MAX);
        x.step(10);
        for (int w = 0; w <= 2; w++) {
            int what = w;
            Check.refusesEach(24, "belt", s -> x.belt(s, what), MIN, -1, 10, MAX);
        }
        Check.refusesEach(24, "belt, what", what -> x.belt(0, what), MIN, -1, 3, MAX);
        Check.due(24, "belt(0, 1)", 0, x.belt(0, 1));
        Check.due(24, "belt(9, 1)", 8, x.belt(9, 1));
    }

    // Promise 24: "-1 if it has no note"
    private static void beltWithoutANote() {
        CashRecycler x = Machines.counting(6);
        x.step(5);
        for (int s = 0; s < 10; s++) {
            for (int what = 0; what <= 2; what++) {
                int due = s != 4 ? -1 : what == 1 ? 8 : 0;
                Check.due(24, "belt(" + s + ", " + what + ")", due, x.belt(s, what));
            }
        }
    }
}
