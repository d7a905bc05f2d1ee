/**
 * The boundary cases of 'Terms' from JUDGED to the books: a test for each sentence, which stands
 * above it.
 */
public final class EdgesOfStatesTest {
    public static void main(String[] args) {
        everyVerdict();
        noVerdictWaits();
        comesWhileFewerThanTwentyFour();
        countingEndsWhenSlotAndBeltAreEmpty();
        countingEndsWhenTheEscrowIsFull();
        slotGoesIntoTheTray();
        storesTheTopmostFirst();
        storesInTheFirstThatIsNotFull();
        storesInTheOverflowElse();
        storingEnds();
        returnsEvenWhatACassetteWouldTake();
        paysTheHighestKindFirst();
        paysFromTheLeastCassetteThatHasNotes();
        payingEnds();
        nothingComesInRecovering();
        recoveringEnds();
        nothingMovesInJammed();
        takenFromSegmentsIsMissing();
        staysJammedIfANoteStillSticks();
        closedWithNothingThatSticks();
        behindSegmentSeven();
        payoutEndsInRecovering();
        planOfAtMostTwenty();
        planOfNotesInCassettesAlone();
        planOfTheFewest();
        planWithMostOfTheHigherKind();
        cutIsStill();
        verdictsAreLost();
        stillStatesStayWhenPowerComes();
        movingStatesRecoverWhenPowerComes();
        notesComeInWhenJudgedOrRefilled();
        Check.finish();
    }

    // "JUDGED: the first of the VERDICTS that wait ...: 1 .. 5: it is of that kind, ...; 0 or 6: it
    // has no kind, and its goal is the TRAY."
    private static void everyVerdict() {
        for (int verdict = 0; verdict <= 6; verdict++) {
            boolean known = verdict >= 1 && verdict <= 5;
            CashRecycler x = Machines.counting(verdict);
            x.step(3);
            Check.due(3, "kind of verdict " + verdict, known ? verdict : 0, x.belt(2, 0));
            Check.due(3, "goal of verdict " + verdict, known ? 1 : 8, x.belt(2, 1));
            Check.due(3, "came in of verdict " + verdict, known ? 1 : 0, Machines.all(x, Machines.CAME_IN));
            x.step(100);
            Check.due(3, "escrow of verdict " + verdict, known ? 1 : 0, Machines.all(x, Machines.IN_ESCROW));
            Check.due(3, "tray of verdict " + verdict, known ? 0 : 1, x.notes(Machines.IN_TRAY, 0));
        }
    }

    // "(6 if there are none)"
    private static void noVerdictWaits() {
        CashRecycler x = new CashRecycler();
        x.insert(2);
        x.verdict(3);
        x.deposit();
        x.step(4);
        Check.due(3, "kind, a verdict waited", 3, x.belt(3, 0));
        Check.due(3, "kind, none waited", 0, x.belt(2, 0));
        Check.due(3, "goal, none waited", 8, x.belt(2, 1));
        Check.due(3, "none waits now either", 1, x.verdict(1));
    }

    // "COUNTING: a note from the slot comes at segment 0, as long as notes on the belt and in the
    // escrow are together fewer than 24."
    private static void comesWhileFewerThanTwentyFour() {
        CashRecycler x = Machines.countingMany(40, 1);
        for (int i = 1; i <= 24; i++) {
            x.step(1);
            Check.due(4, "slot after step " + i, 40 - i, x.notes(Machines.IN_SLOT, 0));
        }
        Check.due(4, "belt and escrow", 24,
                x.notes(Machines.IN_ESCROW, 1) + Machines.all(x, Machines.ON_BELT));
        x.step(1);
        Check.due(4, "slot, 24 have come", 16, x.notes(Machines.IN_SLOT, 0));
        Check.due(4, "segment 0", -1, x.belt(0, 0));

        CashRecycler one = new CashRecycler();
        Machines.insertAll(one, 26);
        Machines.verdicts(one, 23, 1);
        one.deposit();
        one.step(33);
        Check.due(4, "slot, 23 in the escrow and one on the belt", 2, one.notes(Machines.IN_SLOT, 0));
        one.step(1);
        Check.due(4, "slot, as it goes into the tray", 1, one.notes(Machines.IN_SLOT, 0));
        one.step(9);
        Check.due(4, "slot, the next one is on the belt", 1, one.notes(Machines.IN_SLOT, 0));
        one.step(1);
        Check.due(4, "slot, as it goes into the tray", 0, one.notes(Machines.IN_SLOT, 0));
        Check.due(4, "the last one", Machines.COUNTING, one.step(9));
        Check.due(4, "the last one is in the tray", Machines.ESCROWED, one.step(1));
    }

    // "When slot and belt are empty ...: ESCROWED"
    private static void countingEndsWhenSlotAndBeltAreEmpty() {
        CashRecycler x = Machines.counting(1);
        x.step(5);
        x.insert(1);
        Check.due(4, "belt emptied, slot not", Machines.COUNTING, x.step(1));
        Check.due(4, "the note has come", 0, x.belt(0, 0));
        Check.due(4, "slot empty, belt not", Machines.COUNTING, x.step(9));
        Check.due(4, "both empty", Machines.ESCROWED, x.step(1));

        CashRecycler refused = Machines.counting(6);
        Check.due(4, "both empty and the escrow too", Machines.ESCROWED, refused.step(11));
        Check.due(4, "escrow", 0, Machines.all(refused, Machines.IN_ESCROW));
    }

    // "... or the belt is empty and the escrow has 24: ESCROWED"
    private static void countingEndsWhenTheEscrowIsFull() {
        CashRecycler x = Machines.countingMany(25, 2);
        Check.due(4, "the last of 24 is on the belt", Machines.COUNTING, x.step(28));
        Check.due(4, "escrow", 23, x.notes(Machines.IN_ESCROW, 2));
        Check.due(4, "the last of 24 is in the escrow", Machines.ESCROWED, x.step(1));
        Check.due(4, "escrow", 24, x.notes(Machines.IN_ESCROW, 2));
    }

    // "what is in the slot then is put into the tray (without kind)"
    private static void slotGoesIntoTheTray() {
        int[] inserted = {23, 24, 25, 40};
        int[] left = {0, 0, 1, 16};
        for (int i = 0; i < inserted.length; i++) {
            CashRecycler x = Machines.countingMany(inserted[i], 2);
            x.step(100);
            Check.due(4, "tray of " + inserted[i], left[i], x.notes(Machines.IN_TRAY, 0));
            Check.due(4, "tray of any kind", left[i], Machines.all(x, Machines.IN_TRAY));
            Check.due(4, "slot", 0, x.notes(Machines.IN_SLOT, 0));
            Check.due(3, "verdicts that they would have had", left[i] + 1, x.verdict(2));
        }
    }

    // "STORING: the topmost note of the escrow comes at segment 4"
    private static void storesTheTopmostFirst() {
        CashRecycler x = Machines.escrowed(1, 2, 3);
        x.confirm();
        int[] due = {3, 2, 1};
        for (int kind : due) {
            x.step(1);
            Check.due(5, "kind that comes", kind, x.belt(4, 0));
        }
    }

    // "its goal the first cassette of its kind that is not full (notes on the belt that go there
    // counted)"
    private static void storesInTheFirstThatIsNotFull() {
        CashRecycler x = Machines.withKinds(4, 30, 2, 0, 4, 29, 4, 0);
        Machines.startCounting(x, 4, 4, 4);
        x.step(100);
        x.confirm();
        x.step(1);
        Check.due(5, "goal, cassette 0 full, 2 with room for one", 4, x.belt(4, 1));
        x.step(1);
        Check.due(5, "cassette 2 is not full yet", 29, x.cassette(2, 0));
        Check.due(5, "goal, that one on its way", 5, x.belt(4, 1));
        x.step(1);
        Check.due(5, "cassette 2 not full as the next one comes", 29, x.cassette(2, 0));
        Check.due(5, "goal", 5, x.belt(4, 1));
        x.step(100);
        Check.due(5, "cassette 2", 30, x.cassette(2, 0));
        Check.due(5, "cassette 3", 2, x.cassette(3, 0));
    }

    // "..., else OVERFLOW"
    private static void storesInTheOverflowElse() {
        CashRecycler none = Machines.escrowed(5);
        none.confirm();
        none.step(1);
        Check.due(5, "goal, no cassette of the kind", 7, none.belt(4, 1));

        CashRecycler full = Machines.filled(30);
        Machines.startCounting(full, 1);
        full.step(100);
        full.confirm();
        full.step(1);
        Check.due(5, "goal, the only cassette full", 7, full.belt(4, 1));

        CashRecycler coming = Machines.filled(29);
        Machines.startCounting(coming, 1, 1);
        coming.step(100);
        coming.confirm();
        coming.step(1);
        Check.due(5, "goal of the thirtieth", 2, coming.belt(4, 1));
        coming.step(1);
        Check.due(5, "goal of the next", 7, coming.belt(4, 1));
    }

    // "When escrow and belt are empty: IDLE." (STORING)
    private static void storingEnds() {
        CashRecycler x = Machines.escrowed(1);
        x.confirm();
        Check.due(5, "escrow empty, belt not", Machines.STORING, x.step(2));
        Check.due(5, "both empty", Machines.IDLE, x.step(1));
        CashRecycler none = Machines.escrowed(6);
        none.confirm();
        Check.due(5, "confirm() of an empty escrow", Machines.STORING, none.state());
        Check.due(5, "both empty at once", Machines.IDLE, none.step(1));
        CashRecycler full = Machines.countingMany(24, 3);
        full.step(100);
        full.confirm();
        // The last of 24 comes in step 24, and is in cassette 2 three steps later.
        Check.due(5, "a full escrow, before the last", Machines.STORING, full.step(26));
        Check.due(5, "a full escrow", Machines.IDLE, full.step(1));
        Check.due(5, "cassette 2", 24, full.cassette(2, 0));
    }

    // "RETURNING: likewise, all goals are the TRAY."
    private static void returnsEvenWhatACassetteWouldTake() {
        CashRecycler x = Machines.escrowed(1, 2, 3, 4, 5);
        x.giveBack();
        for (int kind = 5; kind >= 1; kind--) {
            x.step(1);
            Check.due(6, "kind that comes", kind, x.belt(4, 0));
            Check.due(6, "goal of kind " + kind, 8, x.belt(4, 1));
        }
        Check.due(6, "escrow empty, belt not", Machines.RETURNING, x.step(5));
        Check.due(6, "both empty", Machines.IDLE, x.step(1));
        Check.due(6, "tray", 5, Machines.all(x, Machines.IN_TRAY));
        CashRecycler none = Machines.escrowed(6);
        none.giveBack();
        Check.due(6, "giveBack() of an empty escrow", Machines.RETURNING, none.state());
        Check.due(6, "both empty at once", Machines.IDLE, none.step(1));
    }

    // "PAYING: the plan's notes, of the highest kind first"
    private static void paysTheHighestKindFirst() {
        CashRecycler x = Machines.withKinds(5, 1, 4, 1, 2, 1, 1, 1);
        x.payout(33);
        String[] due = {".....5....", ".....45...", "......45..", "......245.", "......1245"};
        Machines.stepThrough(7, x, due, Machines.PAYING, Machines.PAYING);
    }

    // "from the cassettes of that kind, the least number first"
    private static void paysFromTheLeastCassetteThatHasNotes() {
        CashRecycler x = Machines.withKinds(3, 0, 3, 2, 3, 1, 3, 5);
        x.payout(16);
        x.step(100);
        Check.due(7, "cassette 1", 0, x.cassette(1, 0));
        Check.due(7, "cassette 2", 0, x.cassette(2, 0));
        Check.due(7, "cassette 3", 4, x.cassette(3, 0));
    }

    // "When all have come and the belt is empty: IDLE." (PAYING)
    private static void payingEnds() {
        CashRecycler x = Machines.filled(20);
        Check.due(7, "payout(20), all that there is", 20, x.payout(20));
        Check.due(7, "all have come, belt not empty", Machines.PAYING, x.step(24));
        Check.due(7, "cassette 0", 0, x.cassette(0, 0));
        Check.due(7, "belt empty", Machines.IDLE, x.step(1));
        Check.due(7, "tray", 20, x.notes(Machines.IN_TRAY, 1));
    }

    // "RECOVERING: nothing comes"
    private static void nothingComesInRecovering() {
        CashRecycler counting = Machines.counting(1, 2, 3);
        counting.step(1);
        Machines.blink(counting);
        counting.step(100);
        Check.due(16, "slot", 2, counting.notes(Machines.IN_SLOT, 0));
        CashRecycler storing = Machines.escrowed(1, 2, 3);
        storing.confirm();
        storing.step(1);
        Machines.blink(storing);
        storing.step(100);
        Check.due(16, "escrow", 2, Machines.all(storing, Machines.IN_ESCROW));
        CashRecycler paying = Machines.filled(3);
        paying.payout(3);
        paying.step(1);
        Machines.blink(paying);
        paying.step(100);
        Check.due(16, "cassette 0", 2, paying.cassette(0, 0));
    }

    // "when the belt is empty: ESCROWED if the escrow is not, else IDLE"
    private static void recoveringEnds() {
        CashRecycler idle = Machines.counting(1);
        Machines.blink(idle);
        Check.due(16, "belt empty from the first", Machines.RECOVERING, idle.state());
        Check.due(16, "escrow empty", Machines.IDLE, idle.step(1));
        CashRecycler one = Machines.escrowed(1);
        one.confirm();
        Machines.blink(one);
        Check.due(16, "one in the escrow", Machines.ESCROWED, one.step(1));
        CashRecycler full = Machines.countingMany(24, 1);
        full.step(100);
        full.giveBack();
        Machines.blink(full);
        Check.due(16, "24 in the escrow", Machines.ESCROWED, full.step(1));
        full.confirm();
        full.step(24);
        Machines.blink(full);
        Check.due(16, "belt not empty", Machines.RECOVERING, full.step(3));
        Check.due(16, "belt empty, escrow too", Machines.IDLE, full.step(1));
    }

    // "JAMMED: nothing moves."
    private static void nothingMovesInJammed() {
        CashRecycler x = Machines.countingMany(12, 6);
        x.step(10);
        x.stick(5);
        x.step(2);
        Machines.shows(9, x, "000000..00");
        String before = Machines.snapshot(x);
        x.step(100);
        x.open();
        x.step(100);
        Check.same(9, "JAMMED", before, Machines.snapshot(x));
    }

    // "takes notes from segments (MISSING, those without kind, too)"
    private static void takenFromSegmentsIsMissing() {
        CashRecycler x = Machines.counting(6, 6, 6, 6, 6, 6, 6, 6, 5, 4);
        x.step(10);
        x.stick(0);
        x.step(2);
        x.open();
        Machines.shows(13, x, "0..5000000");
        int[] segments = {0, 3, 4, 5, 6, 7, 8, 9};
        for (int s : segments) {
            Check.due(13, "remove(" + s + ")", s == 3 ? 5 : 0, x.remove(s));
        }
        Machines.shows(13, x, "..........");
        Check.due(13, "missing without kind", 7, x.notes(Machines.MISSING, 0));
        Check.due(13, "missing of kind 5", 1, x.notes(Machines.MISSING, 5));
        Check.due(13, "balance()", 0, x.balance());
    }

    // "if a note still sticks it stays JAMMED"
    private static void staysJammedIfANoteStillSticks() {
        for (int s = 0; s < 10; s++) {
            CashRecycler x = Machines.countingMany(10, 6);
            x.step(10);
            x.stick(s);
            x.step(2);
            x.open();
            Check.due(15, "close(), segment " + s + " sticks", Machines.JAMMED, x.close());
            x.open();
            Check.due(14, "free(" + s + ")", true, x.free(s));
            Check.due(15, "close(), freed", Machines.RECOVERING, x.close());
        }
        CashRecycler two = Machines.countingMany(10, 6);
        two.step(10);
        two.stick(0);
        two.stick(9);
        two.step(2);
        two.open();
        two.free(0);
        Check.due(15, "close(), one of two freed", Machines.JAMMED, two.close());
        Check.due(24, "goals stay", 8, two.belt(9, 1));
        two.open();
        two.remove(9);
        Check.due(15, "close(), the other one removed", Machines.RECOVERING, two.close());
    }

    // "else it is RECOVERING, all notes on the belt have the goal REJECT"
    private static void closedWithNothingThatSticks() {
        CashRecycler x = Machines.countingMany(8, 6);
        x.step(8);
        x.stick(0);
        x.step(2);
        Machines.shows(15, x, "0..0000000");
        x.open();
        x.free(0);
        x.close();
        int[] goals = {6, -1, -1, 6, 6, 6, 6, 6, -1, -1};
        for (int s = 0; s < 10; s++) {
            Check.due(15, "goal in segment " + s, goals[s], x.belt(s, 1));
        }
        x.step(5);
        x.stick(5);
        x.step(2);
        Machines.shows(15, x, ".....0....");
        x.open();
        x.remove(5);
        Check.due(15, "close() of an empty belt", Machines.RECOVERING, x.close());
        Check.due(15, "one step then", Machines.IDLE, x.step(1));
    }

    // "(those behind segment 7 come into the reject box at once)"
    private static void behindSegmentSeven() {
        CashRecycler x = Machines.countingMany(10, 6);
        x.step(10);
        x.stick(9);
        x.step(2);
        x.open();
        x.free(9);
        x.close();
        Machines.shows(15, x, "00000000..");
        Check.due(15, "reject at once", 2, x.notes(Machines.IN_REJECT, 0));
        Check.due(15, "the one in segment 7 needs a step", Machines.RECOVERING, x.step(1));
        Check.due(15, "reject", 3, x.notes(Machines.IN_REJECT, 0));
        Check.due(15, "the one in segment 0 needs seven more", Machines.RECOVERING, x.step(6));
        Check.due(15, "then", Machines.IDLE, x.step(1));
        Check.due(15, "reject", 10, x.notes(Machines.IN_REJECT, 0));
    }

    // "a payout ends"
    private static void payoutEndsInRecovering() {
        CashRecycler x = Machines.jammed();
        x.open();
        x.free(5);
        x.close();
        Check.due(15, "then", Machines.IDLE, x.step(3));
        Check.due(15, "a payout of all that is left", 2, x.payout(2));
        x.step(1);
        Machines.blink(x);
        x.step(100);
        Check.due(15, "a payout of the last one", 1, x.payout(1));
        Check.due(15, "then", Machines.IDLE, x.step(100));
        Check.due(15, "tray", 1, x.notes(Machines.IN_TRAY, 1));
    }

    // "as few notes as possible, at most 20"
    private static void planOfAtMostTwenty() {
        int[] worth = {0, 1, 2, 4, 10, 20};
        for (int kind = 1; kind <= 5; kind++) {
            CashRecycler x = Machines.withKinds(kind, 30);
            Check.due(8, "19 notes of kind " + kind, 19, x.plan(19 * worth[kind], kind));
            Check.due(8, "20 notes of kind " + kind, 20, x.plan(20 * worth[kind], kind));
            if (kind < 5) {
                int tooMuch = 21 * worth[kind];
                Check.due(8, "21 notes of kind " + kind, -1, x.plan(tooMuch, kind));
                Check.unsupported(7, "payout of 21 notes of kind " + kind, () -> x.payout(tooMuch));
            }
        }
        CashRecycler mixed = Machines.withKinds(4, 19, 3, 1, 2, 1, 1, 1);
        Check.due(8, "19 tens and a four", 19, mixed.plan(194, 4));
        Check.due(8, "19 tens, a four and a two", -1, mixed.plan(196, 4));
    }

    // "numbers of notes of each kind that are in cassettes"
    private static void planOfNotesInCassettesAlone() {
        CashRecycler x = Machines.escrowed(5, 1);
        Check.due(8, "what is in the escrow", -1, x.plan(1, 1));
        x.confirm();
        x.step(2);
        Check.due(8, "what is on the belt", -1, x.plan(1, 1));
        x.step(100);
        Check.due(8, "what is in a cassette", 1, x.plan(1, 1));
        Check.due(8, "what is in the overflow", -1, x.plan(20, 5));
        Check.due(8, "more than there is", -1, x.plan(2, 1));
        x.payout(1);
        x.step(100);
        Check.due(8, "what is in the tray", -1, x.plan(1, 1));
        CashRecycler split = Machines.withKinds(2, 1, 2, 1, 2, 1, 2, 1);
        Check.due(8, "four cassettes of one kind", 4, split.plan(8, 2));
        Check.due(8, "a note more than the four have", -1, split.plan(10, 2));
    }

    // "as few notes as possible"
    private static void planOfTheFewest() {
        CashRecycler x = Machines.withKinds(5, 9, 4, 1, 3, 9, 1, 9);
        Check.due(8, "24 is 20 and 4", 1, x.plan(24, 5));
        Check.due(8, "12 is 10, 1 and 1 or three times 4", 1, x.plan(12, 4));
        Check.due(8, "22 is 20, 1 and 1, not 10 and three times 4", 1, x.plan(22, 5));
        CashRecycler y = Machines.withKinds(4, 9, 3, 9, 2, 1, 1, 1);
        Check.due(8, "10 is a single note, not 4, 4 and 2", 1, y.plan(10, 4));
        Check.due(8, "4 is a single note", 1, y.plan(4, 3));
        Check.due(8, "20 is a single note, not 10 and more", 1, x.plan(20, 5));
        Check.due(8, "16 is 10, 4 and 2, not four times 4", 1, y.plan(16, 4));
        Check.due(8, "its fours", 1, y.plan(16, 3));
        // No notes here pay a rest of 6, so the higher kind is not taken as often as it fits.
        CashRecycler z = Machines.withKinds(5, 2, 4, 3, 3, 4, 5, 0);
        Check.due(8, "36 is 20 and four times 4", 1, z.plan(36, 5));
        Check.due(8, "its tens", 0, z.plan(36, 4));
        Check.due(8, "46 is 20, 10 and four times 4", 1, z.plan(46, 4));
    }

    // "of several the one with most of kind 5, then of 4, and so on"
    private static void planWithMostOfTheHigherKind() {
        CashRecycler x = Machines.withKinds(5, 9, 4, 9, 3, 9, 1, 9);
        int[][] ties = {{12, 2, 0, 0, 1, 0}, {32, 2, 0, 0, 1, 1}, {52, 2, 0, 0, 1, 2}, {33, 3, 0, 0, 1, 1}};
        for (int[] tie : ties) {
            for (int kind = 1; kind <= 5; kind++) {
                Check.due(8, "plan(" + tie[0] + ", " + kind + ")", tie[kind], x.plan(tie[0], kind));
            }
        }
    }

    // "POWER: when it is cut all is still; notes stay where they are"
    private static void cutIsStill() {
        CashRecycler x = Machines.counting(1, 6, 2, 3, 6);
        x.step(5);
        String before = Machines.snapshot(x);
        x.power();
        x.step(100);
        Check.same(16, "without power", before, Machines.snapshot(x));
        CashRecycler paying = Machines.filled(9);
        paying.payout(9);
        paying.step(5);
        String paid = Machines.snapshot(paying);
        paying.power();
        paying.step(1);
        Check.same(16, "without power", paid, Machines.snapshot(paying));
    }

    // "verdicts are lost"
    private static void verdictsAreLost() {
        int[] waiting = {0, 1, 39, 40};
        for (int n : waiting) {
            CashRecycler x = new CashRecycler();
            Machines.verdicts(x, n, 1);
            x.power();
            Check.due(16, "verdict(2), " + n + " were lost", 1, x.verdict(2));
            x.power();
            Check.due(16, "verdict(3), power came", 2, x.verdict(3));
            Machines.verdicts(x, 38, 4);
            Check.badState(3, "verdict(4), 40 wait", () -> x.verdict(4));
            x.insert(2);
            x.deposit();
            x.step(4);
            Check.due(16, "the first one used", 2, x.belt(3, 0));
            Check.due(16, "the second one used", 3, x.belt(2, 0));
        }
    }

    // "when it comes: SERVICE stays, JAMMED stays (closed); ... IDLE and ESCROWED stay"
    private static void stillStatesStayWhenPowerComes() {
        CashRecycler idle = Machines.filled(1, 2, 3, 4);
        idle.insert(1);
        dueSameAfterBlink("IDLE", idle);
        CashRecycler escrowed = Machines.escrowed(1, 6);
        escrowed.insert(1);
        dueSameAfterBlink("ESCROWED", escrowed);
        dueSameAfterBlink("ESCROWED, escrow empty", Machines.escrowed(6));
        CashRecycler served = Machines.filled(1, 2, 3, 4);
        served.service();
        dueSameAfterBlink("SERVICE", served);
        dueSameAfterBlink("JAMMED", Machines.jammed());
        CashRecycler opened = Machines.opened();
        dueSameAfterBlink("open, a note sticks", opened);
        Check.badState(16, "it is closed", () -> opened.remove(5));
    }

    private static void dueSameAfterBlink(String what, CashRecycler x) {
        String before = Machines.snapshot(x);
        Machines.blink(x);
        Check.same(16, what, before, Machines.snapshot(x));
    }

    // "COUNTING, STORING, RETURNING, PAYING and RECOVERING become RECOVERING as above"
    private static void movingStatesRecoverWhenPowerComes() {
        CashRecycler counting = Machines.countingMany(10, 6);
        counting.step(10);
        dueRecovery(counting, "00000000..", 2);
        CashRecycler storing = Machines.escrowed(5, 5, 5, 5, 5);
        storing.confirm();
        storing.step(5);
        dueRecovery(storing, "....5555..", 1);
        CashRecycler returning = Machines.escrowed(1, 2, 3, 4, 5, 5);
        returning.giveBack();
        returning.step(6);
        dueRecovery(returning, "....1234..", 2);
        CashRecycler paying = Machines.filled(0, 0, 4);
        paying.payout(16);
        paying.step(4);
        dueRecovery(paying, "......33..", 2);
        paying.step(1);
        dueRecovery(paying, ".......3..", 3);
    }

    private static void dueRecovery(CashRecycler x, String picture, int rejected) {
        Machines.blink(x);
        Check.due(16, "state()", Machines.RECOVERING, x.state());
        Machines.shows(16, x, picture);
        Check.due(16, "reject", rejected, Machines.all(x, Machines.IN_REJECT));
        for (int s = 0; s < 10; s++) {
            Check.due(16, "goal in segment " + s, picture.charAt(s) == '.' ? -1 : 6, x.belt(s, 1));
        }
    }

    // "THE BOOKS, for each kind: what came IN (judged, and refilled) and where it is"
    private static void notesComeInWhenJudgedOrRefilled() {
        CashRecycler x = Machines.filled(30, 1);
        Machines.startCounting(x, 1, 2, 6);
        x.step(2);
        Check.due(22, "came in of kind 1, refilled", 30, x.notes(Machines.CAME_IN, 1));
        x.step(1);
        Check.due(22, "came in of kind 1, judged", 31, x.notes(Machines.CAME_IN, 1));
        x.step(100);
        Check.due(22, "came in of kind 2", 2, x.notes(Machines.CAME_IN, 2));
        Check.due(22, "came in without kind", 0, x.notes(Machines.CAME_IN, 0));
        Check.due(25, "balance()", 0, x.balance());
    }
}
