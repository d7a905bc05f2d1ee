/**
 * The boundary cases of 'Terms' from the kinds to the step, and of the 512 calls: a test for each
 * sentence, which stands above it.
 */
public final class EdgesOfTermsTest {
    private static final int[] WORTH = {0, 1, 2, 4, 10, 20};

    public static void main(String[] args) {
        theLastOf512Calls();
        worthOfEachKind();
        escrowOfTwentyFour();
        cassettesOfThirty();
        cassettesOfOneKind();
        overflowOfAnyNumber();
        oneNoteInEachSegment();
        goalAtItsSegmentAndNotBefore();
        notesComeAtTheirSegments();
        noStepInStillStates();
        stuckNoteStaysInEverySegment();
        noteGoesOnIfTheNextSegmentIsFree();
        beltMovesFromTheEnd();
        judgedInSegmentTwo();
        oneNoteComesInAStep();
        noNoteComesToATakenSegment();
        stateMayChangeInTheStepThatEmptiesTheBelt();
        jammedInTheSecondStepInARow();
        twoStepsSinceItWasJammed();
        twoStepsSincePowerCame();
        Check.finish();
    }

    // "An object is used for at most 512 calls after it has been made"
    private static void theLastOf512Calls() {
        CashRecycler x = new CashRecycler();
        x.service();
        for (int i = 0; i < 255; i++) {
            x.refill(0, 30);
            x.empty(0);
        }
        Check.due(22, "call 512, emptied of kind 1", 7650, x.notes(Machines.EMPTIED, 1));

        CashRecycler steps = new CashRecycler();
        for (int i = 0; i < 512; i++) {
            Check.due(9, "step(100), call " + (i + 1), Machines.IDLE, steps.step(100));
        }
        CashRecycler switched = new CashRecycler();
        for (int i = 0; i < 512; i++) {
            Check.due(16, "power(), call " + (i + 1), i % 2 == 1, switched.power());
        }
    }

    // "KINDS of notes are 1 .. 5, worth 1, 2, 4, 10, 20."
    private static void worthOfEachKind() {
        for (int kind = 1; kind <= 5; kind++) {
            CashRecycler x = Machines.withKinds(kind, 1);
            for (int amount = 1; amount <= 400; amount++) {
                Check.due(8, "plan(" + amount + ", " + kind + ") of one note",
                        amount == WORTH[kind] ? 1 : -1, x.plan(amount, kind));
            }
            Check.due(7, "payout(" + WORTH[kind] + ")", 1, x.payout(WORTH[kind]));
        }
    }

    // "the ESCROW (a pile of at most 24)"
    private static void escrowOfTwentyFour() {
        int[] inserted = {1, 23, 24, 25, 40};
        int[] kept = {1, 23, 24, 24, 24};
        for (int i = 0; i < inserted.length; i++) {
            CashRecycler x = Machines.countingMany(inserted[i], 4);
            Check.due(4, "step(100)", Machines.ESCROWED, x.step(100));
            Check.due(4, "escrow of " + inserted[i] + " notes", kept[i], x.notes(Machines.IN_ESCROW, 4));
            Check.due(4, "came in of " + inserted[i], kept[i], x.notes(Machines.CAME_IN, 4));
            Check.due(4, "overflow", 0, Machines.all(x, Machines.IN_OVERFLOW));
        }
    }

    // "CASSETTES 0 .. 3 (piles of at most 30, each for one kind; ..."
    private static void cassettesOfThirty() {
        for (int c = 0; c < 4; c++) {
            for (int had = 28; had <= 30; had++) {
                int[] sizes = new int[4];
                sizes[c] = had;
                CashRecycler x = Machines.filled(sizes);
                Machines.startCounting(x, c + 1, c + 1);
                x.step(100);
                x.confirm();
                Check.due(5, "step(100)", Machines.IDLE, x.step(100));
                Check.due(5, "cassette " + c + " of " + had + " and two more", 30, x.cassette(c, 0));
                Check.due(5, "overflow", had - 28, x.notes(Machines.IN_OVERFLOW, c + 1));
            }
        }
    }

    // "... each for one kind; at first cassette c for kind c + 1)"
    private static void cassettesOfOneKind() {
        CashRecycler x = Machines.escrowed(5, 4, 3, 2, 1);
        x.confirm();
        x.step(100);
        for (int c = 0; c < 4; c++) {
            Check.due(23, "kind of cassette " + c, c + 1, x.cassette(c, 1));
            Check.due(5, "cassette " + c, 1, x.cassette(c, 0));
        }
        Check.due(5, "kind 5 has no cassette at first", 1, x.notes(Machines.IN_OVERFLOW, 5));
    }

    // "the OVERFLOW (any number)"
    private static void overflowOfAnyNumber() {
        CashRecycler x = new CashRecycler();
        for (int round = 1; round <= 12; round++) {
            Machines.insertAll(x, 24);
            Machines.verdicts(x, 24, 5);
            x.deposit();
            x.step(100);
            x.confirm();
            x.step(100);
            Check.due(5, "overflow after round " + round, 24 * round, x.notes(Machines.IN_OVERFLOW, 5));
        }
        x.service();
        Check.due(20, "empty(4)", 288, x.empty(4));
    }

    // "SEGMENTS 0 .. 9, at most one note in each"
    private static void oneNoteInEachSegment() {
        CashRecycler x = Machines.countingMany(12, 6);
        x.step(10);
        Machines.shows(9, x, "0000000000");
        Check.due(9, "slot, ten have come", 2, x.notes(Machines.IN_SLOT, 0));
        x.stick(9);
        x.step(1);
        Machines.shows(9, x, "0000000000");
        Check.due(9, "slot, the belt is full and stuck", 2, x.notes(Machines.IN_SLOT, 0));
        Check.due(9, "belt", 10, Machines.all(x, Machines.ON_BELT));
    }

    // "from its GOAL's segment into the goal: ESCROW 4, CASSETTES 0, 1 segment 5, 2, 3 segment 6,
    // REJECT 7, OVERFLOW 8, TRAY 9"
    private static void goalAtItsSegmentAndNotBefore() {
        CashRecycler counted = Machines.counting(1);
        counted.step(5);
        dueEntry(counted, 4, Machines.IN_ESCROW, 1);
        int[] segments = {5, 5, 6, 6, 8};
        for (int kind = 1; kind <= 5; kind++) {
            CashRecycler stored = Machines.escrowed(kind);
            stored.confirm();
            stored.step(segments[kind - 1] - 3);
            dueEntry(stored, segments[kind - 1], kind < 5 ? Machines.IN_CASSETTES : Machines.IN_OVERFLOW, kind);
        }
        CashRecycler rejected = Machines.counting(1);
        rejected.step(1);
        Machines.blink(rejected);
        rejected.step(7);
        dueEntry(rejected, 7, Machines.IN_REJECT, 0);
        CashRecycler refused = Machines.counting(6);
        refused.step(10);
        dueEntry(refused, 9, Machines.IN_TRAY, 0);
    }

    private static void dueEntry(CashRecycler x, int segment, int place, int kind) {
        Check.due(9, "kind in segment " + segment, kind, x.belt(segment, 0));
        Check.due(9, "place " + place + " before the step", 0, x.notes(place, kind));
        x.step(1);
        Check.due(9, "segment " + segment + " after the step", -1, x.belt(segment, 0));
        Check.due(9, "place " + place + " after the step", 1, x.notes(place, kind));
    }

    // "Notes come onto the belt: from the slot at segment 0, from the escrow at 4, from cassettes at
    // their segments."
    private static void notesComeAtTheirSegments() {
        CashRecycler slot = Machines.counting(1);
        slot.step(1);
        Machines.shows(9, slot, "0.........");
        CashRecycler stored = Machines.escrowed(1);
        stored.confirm();
        stored.step(1);
        Machines.shows(9, stored, "....1.....");
        CashRecycler returned = Machines.escrowed(1);
        returned.giveBack();
        returned.step(1);
        Machines.shows(9, returned, "....1.....");
        String[] due = {".....1....", ".....2....", "......3...", "......4..."};
        for (int c = 0; c < 4; c++) {
            int[] sizes = new int[4];
            sizes[c] = 1;
            CashRecycler paid = Machines.filled(sizes);
            paid.payout(WORTH[c + 1]);
            paid.step(1);
            Machines.shows(9, paid, due[c]);
        }
    }

    // "A STEP, unless it is IDLE, ESCROWED, JAMMED, in SERVICE or without power"
    private static void noStepInStillStates() {
        CashRecycler idle = Machines.filled(1, 2, 3, 4);
        idle.insert(3);
        dueStill("IDLE", idle);
        CashRecycler escrowed = Machines.escrowed(1, 6);
        escrowed.insert(3);
        dueStill("ESCROWED", escrowed);
        dueStill("JAMMED", Machines.jammed());
        dueStill("open", Machines.opened());
        CashRecycler served = Machines.filled(1, 2, 3, 4);
        served.service();
        dueStill("SERVICE", served);
        CashRecycler counting = Machines.counting(1, 6, 2);
        counting.step(4);
        dueStill("COUNTING without power", Machines.cut(counting));
        CashRecycler recovering = Machines.counting(1);
        recovering.step(2);
        Machines.blink(recovering);
        dueStill("RECOVERING without power", Machines.cut(recovering));
    }

    private static void dueStill(String what, CashRecycler x) {
        String before = Machines.snapshot(x);
        int state = x.state();
        Check.due(9, "step(1), " + what, state, x.step(1));
        Check.due(9, "step(100), " + what, state, x.step(100));
        Check.same(9, what, before, Machines.snapshot(x));
    }

    // "a note that STICKS stays"
    private static void stuckNoteStaysInEverySegment() {
        for (int s = 0; s < 10; s++) {
            CashRecycler x = Machines.counting(6);
            x.step(s + 1);
            x.stick(s);
            Check.due(11, "one step, stuck in " + s, Machines.COUNTING, x.step(1));
            Check.due(11, "kind in segment " + s, 0, x.belt(s, 0));
            Check.due(11, "belt", 1, Machines.all(x, Machines.ON_BELT));
            Check.due(11, "two steps, stuck in " + s, Machines.JAMMED, x.step(1));
            Check.due(11, "kind in segment " + s, 0, x.belt(s, 0));
        }
    }

    // "another one goes on if the next segment is free, else it stays"
    private static void noteGoesOnIfTheNextSegmentIsFree() {
        CashRecycler x = Machines.counting(6);
        x.step(2);
        x.insert(2);
        x.step(8);
        Machines.shows(9, x, "......00.0");
        x.stick(9);
        x.step(1);
        Machines.shows(9, x, ".......000");
        x.step(1);
        Machines.shows(9, x, ".......000");
    }

    // "first the belt moves: segments from 9 down"
    private static void beltMovesFromTheEnd() {
        CashRecycler x = Machines.countingMany(11, 6);
        x.step(10);
        String[] due = {"0000000000", ".000000000", "..00000000"};
        Machines.stepThrough(9, x, due, Machines.COUNTING, Machines.COUNTING);
        Check.due(9, "tray", 3, x.notes(Machines.IN_TRAY, 0));
    }

    // "A note that has come to segment 2 with the goal JUDGE (that is each one from the slot) is
    // judged now."
    private static void judgedInSegmentTwo() {
        CashRecycler x = Machines.counting(5);
        x.step(2);
        Check.due(24, "kind in segment 1", 0, x.belt(1, 0));
        Check.due(24, "goal in segment 1", 0, x.belt(1, 1));
        Check.due(22, "came in", 0, x.notes(Machines.CAME_IN, 5));
        x.step(1);
        Check.due(24, "kind in segment 2", 5, x.belt(2, 0));
        Check.due(24, "goal in segment 2", 1, x.belt(2, 1));
        Check.due(22, "came in", 1, x.notes(Machines.CAME_IN, 5));
        x.verdict(4);
        x.stick(2);
        x.step(1);
        Check.due(24, "a note that stays in segment 2 is not judged again", 5, x.belt(2, 0));
        Check.due(3, "the verdict still waits", 2, x.verdict(4));
    }

    // "Then one note comes onto the belt as the state says"
    private static void oneNoteComesInAStep() {
        CashRecycler slot = Machines.countingMany(40, 1);
        slot.step(1);
        Check.due(9, "slot", 39, slot.notes(Machines.IN_SLOT, 0));
        CashRecycler escrow = Machines.escrowed(1, 1, 1);
        escrow.confirm();
        escrow.step(1);
        Check.due(9, "escrow", 2, escrow.notes(Machines.IN_ESCROW, 1));
        CashRecycler paid = Machines.filled(2, 0, 0, 2);
        paid.payout(22);
        paid.step(1);
        Check.due(9, "cassettes, not one from each", 3, Machines.all(paid, Machines.IN_CASSETTES));
    }

    // "... if its segment is free"
    private static void noNoteComesToATakenSegment() {
        CashRecycler slot = Machines.counting(1, 1);
        slot.step(1);
        slot.stick(0);
        slot.step(1);
        Check.due(9, "slot, segment 0 taken", 1, slot.notes(Machines.IN_SLOT, 0));
        CashRecycler escrow = Machines.escrowed(1, 1);
        escrow.giveBack();
        escrow.step(1);
        escrow.stick(4);
        escrow.step(1);
        Check.due(9, "escrow, segment 4 taken", 1, escrow.notes(Machines.IN_ESCROW, 1));
        for (int c = 0; c < 4; c++) {
            int[] sizes = new int[4];
            sizes[c] = 2;
            CashRecycler paid = Machines.filled(sizes);
            paid.payout(2 * WORTH[c + 1]);
            paid.step(1);
            paid.stick(c < 2 ? 5 : 6);
            paid.step(1);
            Check.due(9, "cassette " + c + ", its segment taken", 1, paid.cassette(c, 0));
        }
    }

    // "Then the state may change"
    private static void stateMayChangeInTheStepThatEmptiesTheBelt() {
        CashRecycler x = Machines.counting(1);
        Check.due(9, "the note is on the belt", Machines.COUNTING, x.step(5));
        Check.due(9, "the note is in the escrow", Machines.ESCROWED, x.step(1));
        x.giveBack();
        Check.due(9, "the note is on the belt", Machines.RETURNING, x.step(6));
        Check.due(9, "the note is in the tray", Machines.IDLE, x.step(1));
    }

    // "if some note stuck as the belt moved, in this step and in the one before ..., it is JAMMED"
    private static void jammedInTheSecondStepInARow() {
        CashRecycler x = Machines.counting(1, 6, 6);
        x.step(2);
        x.stick(1);
        Check.due(11, "the first step", Machines.COUNTING, x.step(1));
        x.stick(0);
        Check.due(11, "the second step", Machines.JAMMED, x.step(1));

        CashRecycler other = Machines.countingMany(3, 6);
        other.step(10);
        other.stick(8);
        other.step(1);
        other.stick(7);
        Check.due(11, "another note sticks in the second", Machines.JAMMED, other.step(1));

        CashRecycler last = Machines.counting(6);
        last.step(10);
        last.stick(9);
        Check.due(11, "a note that sticks alone keeps the state from ending", Machines.COUNTING, last.step(1));
        Check.due(11, "the second step", Machines.JAMMED, last.step(1));
    }

    // "(both since it was JAMMED last, ...)"
    private static void twoStepsSinceItWasJammed() {
        CashRecycler x = Machines.counting(1, 2);
        x.step(2);
        x.stick(0);
        x.step(2);
        x.open();
        x.free(0);
        Check.due(15, "close()", Machines.RECOVERING, x.close());
        x.stick(0);
        Check.due(11, "the first step since", Machines.RECOVERING, x.step(1));
        Check.due(11, "the second", Machines.JAMMED, x.step(1));
    }

    // "(both since ... power came)"
    private static void twoStepsSincePowerCame() {
        CashRecycler x = Machines.counting(1);
        x.step(1);
        x.stick(0);
        x.step(1);
        Machines.blink(x);
        Check.due(16, "the first step since", Machines.RECOVERING, x.step(1));
        Machines.blink(x);
        Check.due(16, "the first step since", Machines.RECOVERING, x.step(1));
        Check.due(16, "the second", Machines.JAMMED, x.step(1));
    }
}
