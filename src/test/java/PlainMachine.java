import java.util.ArrayDeque;
import java.util.ArrayList;
import java.util.Deque;
import java.util.List;
import java.util.NoSuchElementException;

/**
 * The document once more, written as unlike the program as possible: notes are objects that know
 * their place, every number is counted anew, and plans are found by trying all of them.
 */
final class PlainMachine {
    enum State { IDLE, COUNTING, ESCROWED, STORING, RETURNING, PAYING, JAMMED, RECOVERING, SERVICE }

    enum Place { ESCROW, CASSETTE, OVERFLOW, BELT, REJECT, TRAY, TAKEN, EMPTIED, MISSING, CAME_IN, SLOT }

    enum Goal { JUDGE, ESCROW, C0, C1, C2, C3, REJECT, OVERFLOW, TRAY }

    private static final int[] WORTH = {0, 1, 2, 4, 10, 20};

    private static final class Note {
        int kind;
        Place place;
        int cassette;
        int segment;
        Goal goal;
        boolean sticks;
        boolean booked;
    }

    private final List<Note> notes = new ArrayList<>();
    private final Deque<Note> pile = new ArrayDeque<>();
    private final Deque<Integer> verdicts = new ArrayDeque<>();
    private final int[] cassetteKinds = {1, 2, 3, 4};
    private final List<Integer> toPay = new ArrayList<>();
    private State state = State.IDLE;
    private boolean power = true;
    private boolean open = false;
    private int stuckRun = 0;

    private static void allow(boolean ok) {
        if (!ok) {
            throw new IllegalArgumentException();
        }
    }

    private static void need(boolean ok) {
        if (!ok) {
            throw new IllegalStateException();
        }
    }

    private static boolean within(int n, int low, int high) {
        return low <= n && n <= high;
    }

    private int number(Place place) {
        int found = 0;
        for (Note note : notes) {
            found += note.place == place ? 1 : 0;
        }
        return found;
    }

    private int inCassette(int c) {
        int found = 0;
        for (Note note : notes) {
            found += note.place == Place.CASSETTE && note.cassette == c ? 1 : 0;
        }
        return found;
    }

    private Note at(int segment) {
        for (Note note : notes) {
            if (note.place == Place.BELT && note.segment == segment) {
                return note;
            }
        }
        return null;
    }

    private int moveAll(Place from, Place to) {
        int moved = 0;
        for (Note note : notes) {
            if (note.place == from) {
                note.place = to;
                moved++;
            }
        }
        return moved;
    }

    int insert(int n) {
        allow(within(n, 1, 20));
        need(number(Place.SLOT) + n <= 40);
        for (int i = 0; i < n; i++) {
            Note note = new Note();
            note.place = Place.SLOT;
            notes.add(note);
        }
        return number(Place.SLOT);
    }

    int verdict(int kind) {
        allow(within(kind, 0, 6));
        need(verdicts.size() < 40);
        verdicts.addLast(kind);
        return verdicts.size();
    }

    void deposit() {
        need(state == State.IDLE && power && number(Place.SLOT) > 0 && number(Place.TRAY) == 0);
        state = State.COUNTING;
    }

    void confirm() {
        need(state == State.ESCROWED && power);
        state = State.STORING;
    }

    void giveBack() {
        need(state == State.ESCROWED && power);
        state = State.RETURNING;
    }

    int payout(int amount) {
        allow(within(amount, 1, 400));
        need(state == State.IDLE && power && number(Place.TRAY) == 0);
        int[] best = bestPlan(stock(), amount);
        if (best == null) {
            throw new UnsupportedOperationException();
        }
        toPay.clear();
        for (int kind = 5; kind >= 1; kind--) {
            for (int i = 0; i < best[kind]; i++) {
                toPay.add(kind);
            }
        }
        state = State.PAYING;
        return toPay.size();
    }

    int plan(int amount, int kind) {
        allow(within(kind, 1, 5) && within(amount, 1, 400));
        int[] best = bestPlan(stock(), amount);
        return best == null ? -1 : best[kind];
    }

    private int[] stock() {
        int[] have = new int[6];
        for (Note note : notes) {
            if (note.place == Place.CASSETTE) {
                have[note.kind]++;
            }
        }
        return have;
    }

    /** All numbers of all kinds, at most 20 notes, the most of the highest kinds first; null if none. */
    static int[] bestPlan(int[] have, int amount) {
        int[] best = null;
        int fewest = 21;
        for (int e = Math.min(20, have[5]); e >= 0; e--) {
            for (int d = Math.min(20 - e, have[4]); d >= 0; d--) {
                for (int c = Math.min(20 - e - d, have[3]); c >= 0; c--) {
                    for (int b = Math.min(20 - e - d - c, have[2]); b >= 0; b--) {
                        int a = amount - e * WORTH[5] - d * WORTH[4] - c * WORTH[3] - b * WORTH[2];
                        if (a >= 0 && a <= have[1] && a + b + c + d + e < fewest) {
                            fewest = a + b + c + d + e;
                            best = new int[] {0, a, b, c, d, e};
                        }
                    }
                }
            }
        }
        return best;
    }

    int step(int n) {
        allow(within(n, 1, 100));
        for (int i = 0; i < n; i++) {
            oneStep();
        }
        return state.ordinal();
    }

    private void oneStep() {
        boolean still = state == State.IDLE || state == State.ESCROWED || state == State.JAMMED
                || state == State.SERVICE;
        if (still || !power) {
            return;
        }
        boolean stuck = false;
        for (int s = 9; s >= 0; s--) {
            Note note = at(s);
            if (note != null) {
                stuck |= note.sticks;
                if (!note.sticks) {
                    move(note);
                }
            }
        }
        Note seen = at(2);
        if (seen != null && seen.goal == Goal.JUDGE) {
            judge(seen);
        }
        bring();
        change();
        stuckRun = stuck ? stuckRun + 1 : 0;
        if (stuckRun == 2) {
            stuckRun = 0;
            state = State.JAMMED;
        }
    }

    private void move(Note note) {
        int[] ends = {99, 4, 5, 5, 6, 6, 7, 8, 9};
        if (note.segment == ends[note.goal.ordinal()]) {
            if (enter(note)) {
                return;
            }
            note.goal = Goal.OVERFLOW;
        }
        if (note.segment < 9 && at(note.segment + 1) == null) {
            note.segment++;
        }
    }

    private boolean enter(Note note) {
        switch (note.goal) {
            case ESCROW:
                if (pile.size() == 24) {
                    return false;
                }
                pile.push(note);
                note.place = Place.ESCROW;
                return true;
            case REJECT:
                note.place = Place.REJECT;
                return true;
            case OVERFLOW:
                note.place = Place.OVERFLOW;
                return true;
            case TRAY:
                note.place = Place.TRAY;
                return true;
            default:
                int c = note.goal.ordinal() - 2;
                if (inCassette(c) == 30 || cassetteKinds[c] != note.kind) {
                    return false;
                }
                note.place = Place.CASSETTE;
                note.cassette = c;
                return true;
        }
    }

    private void judge(Note note) {
        int verdict = verdicts.isEmpty() ? 6 : verdicts.removeFirst();
        if (within(verdict, 1, 5)) {
            note.kind = verdict;
            note.booked = true;
            note.goal = Goal.ESCROW;
        } else {
            note.goal = Goal.TRAY;
        }
    }

    private void lay(Note note, int segment, Goal goal) {
        note.place = Place.BELT;
        note.segment = segment;
        note.goal = goal;
    }

    private void bring() {
        if (state == State.COUNTING && at(0) == null && number(Place.BELT) + pile.size() < 24) {
            for (Note note : notes) {
                if (note.place == Place.SLOT) {
                    lay(note, 0, Goal.JUDGE);
                    return;
                }
            }
        }
        if ((state == State.STORING || state == State.RETURNING) && at(4) == null && !pile.isEmpty()) {
            Note note = pile.pop();
            lay(note, 4, state == State.STORING ? store(note.kind) : Goal.TRAY);
        }
        if (state == State.PAYING && !toPay.isEmpty()) {
            pay(toPay.get(0));
        }
    }

    private Goal store(int kind) {
        for (int c = 0; c < 4; c++) {
            int coming = 0;
            for (int s = 0; s < 10; s++) {
                coming += at(s) != null && at(s).goal.ordinal() == c + 2 ? 1 : 0;
            }
            if (cassetteKinds[c] == kind && inCassette(c) + coming < 30) {
                return Goal.values()[c + 2];
            }
        }
        return Goal.OVERFLOW;
    }

    private void pay(int kind) {
        for (int c = 0; c < 4; c++) {
            if (cassetteKinds[c] == kind && inCassette(c) > 0) {
                int segment = c < 2 ? 5 : 6;
                if (at(segment) == null) {
                    lay(anyOf(c), segment, Goal.TRAY);
                    toPay.remove(0);
                }
                return;
            }
        }
    }

    private Note anyOf(int c) {
        for (Note note : notes) {
            if (note.place == Place.CASSETTE && note.cassette == c) {
                return note;
            }
        }
        throw new AssertionError("cassette " + c + " is empty");
    }

    private void change() {
        if (number(Place.BELT) > 0) {
            return;
        }
        if (state == State.COUNTING && (number(Place.SLOT) == 0 || pile.size() == 24)) {
            moveAll(Place.SLOT, Place.TRAY);
            state = State.ESCROWED;
        } else if ((state == State.STORING || state == State.RETURNING) && pile.isEmpty()) {
            state = State.IDLE;
        } else if (state == State.PAYING && toPay.isEmpty()) {
            state = State.IDLE;
        } else if (state == State.RECOVERING) {
            state = pile.isEmpty() ? State.IDLE : State.ESCROWED;
        }
    }

    int taken() {
        return moveAll(Place.TRAY, Place.TAKEN);
    }

    void stick(int segment) {
        allow(within(segment, 0, 9));
        if (at(segment) == null) {
            throw new NoSuchElementException();
        }
        at(segment).sticks = true;
    }

    void open() {
        need(state == State.JAMMED && !open && power);
        open = true;
    }

    int remove(int segment) {
        need(open);
        allow(within(segment, 0, 9));
        Note note = at(segment);
        if (note == null) {
            throw new NoSuchElementException();
        }
        note.place = Place.MISSING;
        return note.kind;
    }

    boolean free(int segment) {
        need(open);
        allow(within(segment, 0, 9));
        Note note = at(segment);
        if (note == null || !note.sticks) {
            return false;
        }
        note.sticks = false;
        return true;
    }

    int close() {
        need(open && power);
        open = false;
        for (int s = 0; s < 10; s++) {
            if (at(s) != null && at(s).sticks) {
                return state.ordinal();
            }
        }
        recover();
        return state.ordinal();
    }

    private void recover() {
        state = State.RECOVERING;
        toPay.clear();
        for (Note note : notes) {
            if (note.place == Place.BELT) {
                note.goal = Goal.REJECT;
                note.place = note.segment > 7 ? Place.REJECT : Place.BELT;
            }
        }
    }

    boolean power() {
        power = !power;
        if (!power) {
            verdicts.clear();
            return false;
        }
        stuckRun = 0;
        switch (state) {
            case JAMMED:
                if (open) {
                    close();
                }
                break;
            case IDLE:
            case ESCROWED:
            case SERVICE:
                break;
            default:
                recover();
        }
        return true;
    }

    boolean service() {
        need((state == State.IDLE || state == State.SERVICE) && power);
        state = state == State.IDLE ? State.SERVICE : State.IDLE;
        return state == State.SERVICE;
    }

    void kind(int cassette, int kind) {
        need(state == State.SERVICE && power);
        allow(within(cassette, 0, 3) && within(kind, 1, 5));
        if (inCassette(cassette) > 0) {
            throw new UnsupportedOperationException();
        }
        cassetteKinds[cassette] = kind;
    }

    int refill(int cassette, int n) {
        need(state == State.SERVICE && power);
        allow(within(cassette, 0, 3) && n >= 1);
        allow((long) inCassette(cassette) + n <= 30);
        for (int i = 0; i < n; i++) {
            Note note = new Note();
            note.kind = cassetteKinds[cassette];
            note.booked = true;
            note.place = Place.CASSETTE;
            note.cassette = cassette;
            notes.add(note);
        }
        return inCassette(cassette);
    }

    int empty(int place) {
        need(state == State.SERVICE && power);
        allow(within(place, 0, 5));
        if (place >= 4) {
            return moveAll(place == 4 ? Place.OVERFLOW : Place.REJECT, Place.EMPTIED);
        }
        int had = inCassette(place);
        for (Note note : notes) {
            if (note.place == Place.CASSETTE && note.cassette == place) {
                note.place = Place.EMPTIED;
            }
        }
        return had;
    }

    int state() {
        return state.ordinal();
    }

    int notes(int place, int kind) {
        allow(within(place, 0, 10) && within(kind, 0, 5));
        int found = 0;
        for (Note note : notes) {
            boolean counts = place == 9 ? note.booked : note.place.ordinal() == place;
            found += counts && note.kind == kind ? 1 : 0;
        }
        return found;
    }

    int cassette(int c, int what) {
        allow(within(c, 0, 3) && within(what, 0, 1));
        return what == 0 ? inCassette(c) : cassetteKinds[c];
    }

    int belt(int segment, int what) {
        allow(within(segment, 0, 9) && within(what, 0, 2));
        Note note = at(segment);
        if (note == null) {
            return -1;
        }
        return what == 0 ? note.kind : what == 1 ? note.goal.ordinal() : note.sticks ? 1 : 0;
    }

    /** Every note is a single object in a single place, so nothing can be off. */
    int balance() {
        return 0;
    }
}
