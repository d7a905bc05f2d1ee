import java.util.NoSuchElementException;

/**
 * A machine that takes notes in, keeps them and pays them out again.
 * The document's promises are the contract; every row is made with the object and used again.
 */
public final class CashRecycler {
    private static final int NO_KIND = 0;
    private static final int HIGHEST_KIND = 5;
    private static final int WORTH_OF_2 = 2;
    private static final int WORTH_OF_3 = 4;
    private static final int WORTH_OF_4 = 10;
    private static final int WORTH_OF_5 = 20;

    private static final int IDLE = 0;
    private static final int COUNTING = 1;
    private static final int ESCROWED = 2;
    private static final int STORING = 3;
    private static final int RETURNING = 4;
    private static final int PAYING = 5;
    private static final int JAMMED = 6;
    private static final int RECOVERING = 7;
    private static final int SERVICE = 8;

    private static final int PLACE_ESCROW = 0;
    private static final int PLACE_CASSETTES = 1;
    private static final int PLACE_OVERFLOW = 2;
    private static final int PLACE_BELT = 3;
    private static final int PLACE_REJECT = 4;
    private static final int PLACE_TRAY = 5;
    private static final int PLACE_TAKEN = 6;
    private static final int PLACE_EMPTIED = 7;
    private static final int PLACE_MISSING = 8;
    private static final int PLACE_CAME_IN = 9;
    private static final int PLACE_SLOT = 10;

    private static final int GOAL_JUDGE = 0;
    private static final int GOAL_ESCROW = 1;
    private static final int GOAL_FIRST_CASSETTE = 2;
    private static final int GOAL_REJECT = 6;
    private static final int GOAL_OVERFLOW = 7;
    private static final int GOAL_TRAY = 8;

    private static final int SEGMENTS = 10;
    private static final int SLOT_SEGMENT = 0;
    private static final int JUDGE_SEGMENT = 2;
    private static final int ESCROW_SEGMENT = 4;
    private static final int REJECT_SEGMENT = 7;
    /** By goal; the judge looks at notes as they pass, so no segment is its end. */
    private static final int[] GOAL_SEGMENT = {-1, 4, 5, 5, 6, 6, 7, 8, 9};

    private static final int CASSETTES = 4;
    private static final int CASSETTE_ROOM = 30;
    private static final int ESCROW_ROOM = 24;
    private static final int SLOT_ROOM = 40;
    private static final int VERDICT_ROOM = 40;
    private static final int MOST_INSERTED = 20;
    private static final int MOST_STEPS = 100;
    private static final int MOST_PAID = 400;
    private static final int MOST_PLANNED = 20;
    private static final int NO_VERDICT = 6;
    private static final int EMPTY_OVERFLOW = 4;
    private static final int EMPTY_REJECT = 5;

    private final Verdicts verdicts = new Verdicts();
    private final Track track = new Track();
    private final Escrow escrow = new Escrow();
    private final Magazine magazine = new Magazine();
    private final Books books = new Books();
    /** Apart from the payout's own plan, so that a question does not disturb a payout. */
    private final Plan asked = new Plan();
    private final Plan paying = new Plan();
    private int state = IDLE;
    private int slot = 0;
    private boolean powered = true;
    private boolean opened = false;
    private boolean stuckBefore = false;

    public CashRecycler() {
    }

    public int insert(int n) throws IllegalArgumentException, IllegalStateException {
        if (n < 1 || n > MOST_INSERTED) {
            throw new IllegalArgumentException();
        }
        if (slot + n > SLOT_ROOM) {
            throw new IllegalStateException();
        }
        slot += n;
        return slot;
    }

    public int verdict(int kind) throws IllegalArgumentException, IllegalStateException {
        if (kind < 0 || kind > NO_VERDICT) {
            throw new IllegalArgumentException();
        }
        if (verdicts.isFull()) {
            throw new IllegalStateException();
        }
        return verdicts.add(kind);
    }

    public void deposit() throws IllegalStateException {
        if (!isReady(IDLE) || slot == 0 || books.total(PLACE_TRAY) > 0) {
            throw new IllegalStateException();
        }
        state = COUNTING;
    }

    public void confirm() throws IllegalStateException {
        if (!isReady(ESCROWED)) {
            throw new IllegalStateException();
        }
        state = STORING;
    }

    public void giveBack() throws IllegalStateException {
        if (!isReady(ESCROWED)) {
            throw new IllegalStateException();
        }
        state = RETURNING;
    }

    public int payout(int amount)
            throws IllegalArgumentException, IllegalStateException, UnsupportedOperationException {
        if (!isPayable(amount)) {
            throw new IllegalArgumentException();
        }
        if (!isReady(IDLE) || books.total(PLACE_TRAY) > 0) {
            throw new IllegalStateException();
        }
        if (!paying.find(amount, magazine)) {
            throw new UnsupportedOperationException();
        }
        state = PAYING;
        return paying.size();
    }

    public int plan(int amount, int kind) throws IllegalArgumentException {
        if (!isKind(kind) || !isPayable(amount)) {
            throw new IllegalArgumentException();
        }
        return asked.find(amount, magazine) ? asked.count(kind) : -1;
    }

    public int step(int n) throws IllegalArgumentException {
        if (n < 1 || n > MOST_STEPS) {
            throw new IllegalArgumentException();
        }
        for (int i = 0; i < n; i++) {
            stepOnce();
        }
        return state;
    }

    public int taken() {
        return books.pour(PLACE_TRAY, PLACE_TAKEN);
    }

    public void stick(int segment) throws IllegalArgumentException, NoSuchElementException {
        if (!isSegment(segment)) {
            throw new IllegalArgumentException();
        }
        if (track.isFree(segment)) {
            throw new NoSuchElementException();
        }
        track.setSticking(segment, true);
    }

    public void open() throws IllegalStateException {
        if (!isReady(JAMMED) || opened) {
            throw new IllegalStateException();
        }
        opened = true;
    }

    public int remove(int segment)
            throws IllegalStateException, IllegalArgumentException, NoSuchElementException {
        if (!opened) {
            throw new IllegalStateException();
        }
        if (!isSegment(segment)) {
            throw new IllegalArgumentException();
        }
        if (track.isFree(segment)) {
            throw new NoSuchElementException();
        }
        int kind = track.kindAt(segment);
        track.clear(segment);
        books.add(PLACE_MISSING, kind, 1);
        return kind;
    }

    public boolean free(int segment) throws IllegalStateException, IllegalArgumentException {
        if (!opened) {
            throw new IllegalStateException();
        }
        if (!isSegment(segment)) {
            throw new IllegalArgumentException();
        }
        boolean stuck = track.sticksAt(segment);
        track.setSticking(segment, false);
        return stuck;
    }

    public int close() throws IllegalStateException {
        if (!opened || !powered) {
            throw new IllegalStateException();
        }
        shut();
        return state;
    }

    public boolean power() {
        powered = !powered;
        if (powered) {
            wakeUp();
        } else {
            verdicts.clear();
        }
        return powered;
    }

    public boolean service() throws IllegalStateException {
        if (!isReady(IDLE) && !isReady(SERVICE)) {
            throw new IllegalStateException();
        }
        state = state == IDLE ? SERVICE : IDLE;
        return state == SERVICE;
    }

    public void kind(int cassette, int kind)
            throws IllegalStateException, IllegalArgumentException, UnsupportedOperationException {
        if (!isReady(SERVICE)) {
            throw new IllegalStateException();
        }
        if (!isCassette(cassette) || !isKind(kind)) {
            throw new IllegalArgumentException();
        }
        if (magazine.size(cassette) > 0) {
            throw new UnsupportedOperationException();
        }
        magazine.setKind(cassette, kind);
    }

    public int refill(int cassette, int n) throws IllegalStateException, IllegalArgumentException {
        if (!isReady(SERVICE)) {
            throw new IllegalStateException();
        }
        if (!isCassette(cassette) || n < 1 || n > magazine.room(cassette)) {
            throw new IllegalArgumentException();
        }
        magazine.change(cassette, n);
        books.add(PLACE_CAME_IN, magazine.kindOf(cassette), n);
        return magazine.size(cassette);
    }

    public int empty(int place) throws IllegalStateException, IllegalArgumentException {
        if (!isReady(SERVICE)) {
            throw new IllegalStateException();
        }
        if (isCassette(place)) {
            return emptyCassette(place);
        }
        if (place == EMPTY_OVERFLOW) {
            return books.pour(PLACE_OVERFLOW, PLACE_EMPTIED);
        }
        if (place == EMPTY_REJECT) {
            return books.pour(PLACE_REJECT, PLACE_EMPTIED);
        }
        throw new IllegalArgumentException();
    }

    public int state() {
        return state;
    }

    public int notes(int place, int kind) throws IllegalArgumentException {
        if (place < 0 || place > PLACE_SLOT || kind < 0 || kind > HIGHEST_KIND) {
            throw new IllegalArgumentException();
        }
        return countNotes(place, kind);
    }

    public int cassette(int c, int what) throws IllegalArgumentException {
        if (!isCassette(c) || what < 0 || what > 1) {
            throw new IllegalArgumentException();
        }
        return what == 0 ? magazine.size(c) : magazine.kindOf(c);
    }

    public int belt(int segment, int what) throws IllegalArgumentException {
        if (!isSegment(segment) || what < 0 || what > 2) {
            throw new IllegalArgumentException();
        }
        if (track.isFree(segment)) {
            return -1;
        }
        if (what == 0) {
            return track.kindAt(segment);
        }
        if (what == 1) {
            return track.goalAt(segment);
        }
        return track.sticksAt(segment) ? 1 : 0;
    }

    public int balance() {
        int off = 0;
        for (int kind = 1; kind <= HIGHEST_KIND; kind++) {
            int told = 0;
            for (int place = PLACE_ESCROW; place <= PLACE_MISSING; place++) {
                told += countNotes(place, kind);
            }
            off += Math.abs(countNotes(PLACE_CAME_IN, kind) - told);
        }
        return off;
    }

    private static boolean isKind(int kind) {
        return kind >= 1 && kind <= HIGHEST_KIND;
    }

    private static boolean isCassette(int cassette) {
        return cassette >= 0 && cassette < CASSETTES;
    }

    private static boolean isSegment(int segment) {
        return segment >= 0 && segment < SEGMENTS;
    }

    private static boolean isPayable(int amount) {
        return amount >= 1 && amount <= MOST_PAID;
    }

    private boolean isReady(int wanted) {
        return powered && state == wanted;
    }

    private boolean isRunning() {
        return state == COUNTING || state == STORING || state == RETURNING
                || state == PAYING || state == RECOVERING;
    }

    private int countNotes(int place, int kind) {
        switch (place) {
            case PLACE_ESCROW:
                return escrow.count(kind);
            case PLACE_CASSETTES:
                return magazine.count(kind);
            case PLACE_BELT:
                return track.count(kind);
            case PLACE_SLOT:
                return kind == NO_KIND ? slot : 0;
            default:
                return books.count(place, kind);
        }
    }

    private int emptyCassette(int cassette) {
        int had = magazine.size(cassette);
        magazine.change(cassette, -had);
        books.add(PLACE_EMPTIED, magazine.kindOf(cassette), had);
        return had;
    }

    private void stepOnce() {
        if (!powered || !isRunning()) {
            return;
        }
        boolean stuck = moveBelt();
        judgeNote();
        bringNote();
        endIfDone();
        jamIfStuck(stuck);
    }

    /** Whether some note stuck as the belt moved. */
    private boolean moveBelt() {
        boolean stuck = false;
        for (int s = SEGMENTS - 1; s >= 0; s--) {
            if (track.sticksAt(s)) {
                stuck = true;
            } else if (!track.isFree(s)) {
                moveNote(s);
            }
        }
        return stuck;
    }

    private void moveNote(int s) {
        if (track.isAtGoal(s)) {
            if (goesIn(track.kindAt(s), track.goalAt(s))) {
                track.clear(s);
                return;
            }
            track.setGoal(s, GOAL_OVERFLOW);
        }
        track.advance(s);
    }

    private boolean goesIn(int kind, int goal) {
        switch (goal) {
            case GOAL_ESCROW:
                return escrow.push(kind);
            case GOAL_REJECT:
                books.add(PLACE_REJECT, kind, 1);
                return true;
            case GOAL_OVERFLOW:
                books.add(PLACE_OVERFLOW, kind, 1);
                return true;
            case GOAL_TRAY:
                books.add(PLACE_TRAY, kind, 1);
                return true;
            default:
                return magazine.push(goal - GOAL_FIRST_CASSETTE, kind);
        }
    }

    private void judgeNote() {
        if (track.goalAt(JUDGE_SEGMENT) != GOAL_JUDGE) {
            return;
        }
        int verdict = verdicts.next();
        if (isKind(verdict)) {
            track.put(JUDGE_SEGMENT, verdict, GOAL_ESCROW);
            books.add(PLACE_CAME_IN, verdict, 1);
        } else {
            track.setGoal(JUDGE_SEGMENT, GOAL_TRAY);
        }
    }

    private void bringNote() {
        switch (state) {
            case COUNTING:
                bringFromSlot();
                break;
            case STORING:
            case RETURNING:
                bringFromEscrow();
                break;
            case PAYING:
                bringFromCassette();
                break;
            default:
                break;
        }
    }

    private void bringFromSlot() {
        if (slot > 0 && track.isFree(SLOT_SEGMENT) && track.size() + escrow.size() < ESCROW_ROOM) {
            slot--;
            track.put(SLOT_SEGMENT, NO_KIND, GOAL_JUDGE);
        }
    }

    private void bringFromEscrow() {
        if (escrow.size() > 0 && track.isFree(ESCROW_SEGMENT)) {
            int kind = escrow.pop();
            track.put(ESCROW_SEGMENT, kind, state == STORING ? storeGoal(kind) : GOAL_TRAY);
        }
    }

    private int storeGoal(int kind) {
        for (int c = 0; c < CASSETTES; c++) {
            int goal = GOAL_FIRST_CASSETTE + c;
            if (magazine.kindOf(c) == kind && track.countGoing(goal) < magazine.room(c)) {
                return goal;
            }
        }
        return GOAL_OVERFLOW;
    }

    private void bringFromCassette() {
        int kind = paying.highestKind();
        int c = magazine.firstWith(kind);
        if (!isCassette(c)) {
            return;
        }
        int segment = GOAL_SEGMENT[GOAL_FIRST_CASSETTE + c];
        if (track.isFree(segment)) {
            paying.strikeOut(kind);
            magazine.change(c, -1);
            track.put(segment, kind, GOAL_TRAY);
        }
    }

    private void endIfDone() {
        if (track.size() > 0) {
            return;
        }
        switch (state) {
            case COUNTING:
                endCounting();
                break;
            case STORING:
            case RETURNING:
                state = escrow.size() == 0 ? IDLE : state;
                break;
            case PAYING:
                state = paying.size() == 0 ? IDLE : PAYING;
                break;
            case RECOVERING:
                state = escrow.size() == 0 ? IDLE : ESCROWED;
                break;
            default:
                break;
        }
    }

    private void endCounting() {
        if (slot == 0 || escrow.size() == ESCROW_ROOM) {
            books.add(PLACE_TRAY, NO_KIND, slot);
            slot = 0;
            state = ESCROWED;
        }
    }

    private void jamIfStuck(boolean stuck) {
        boolean jams = stuck && stuckBefore;
        // Two new steps with a stuck note make the next jam.
        stuckBefore = stuck && !jams;
        if (jams) {
            state = JAMMED;
        }
    }

    private void wakeUp() {
        stuckBefore = false;
        if (opened) {
            shut();
        } else if (isRunning()) {
            recover();
        }
    }

    private void shut() {
        opened = false;
        if (!track.anySticks()) {
            recover();
        }
    }

    private void recover() {
        state = RECOVERING;
        paying.drop();
        for (int s = 0; s < SEGMENTS; s++) {
            if (!track.isFree(s)) {
                sendToReject(s);
            }
        }
    }

    private void sendToReject(int s) {
        // The belt never runs back, so a note that has passed the box goes in at once.
        if (s > REJECT_SEGMENT) {
            books.add(PLACE_REJECT, track.kindAt(s), 1);
            track.clear(s);
        } else {
            track.setGoal(s, GOAL_REJECT);
        }
    }

    /** The verdicts that wait, first come first used: a ring. */
    private static final class Verdicts {
        private final int[] ring = new int[VERDICT_ROOM];
        private int first = 0;
        private int waiting = 0;

        boolean isFull() {
            return waiting >= VERDICT_ROOM;
        }

        int add(int verdict) {
            if (waiting < VERDICT_ROOM) {
                ring[(first + waiting) % VERDICT_ROOM] = verdict;
                waiting++;
            }
            return waiting;
        }

        int next() {
            if (waiting == 0) {
                return NO_VERDICT;
            }
            int verdict = ring[first];
            first = (first + 1) % VERDICT_ROOM;
            waiting--;
            return verdict;
        }

        void clear() {
            waiting = 0;
        }
    }

    /** The belt's segments; a segment without a note has the goal NOTHING. */
    private static final class Track {
        private static final int NOTHING = -1;

        private final int[] kinds = new int[SEGMENTS];
        private final int[] goals = new int[SEGMENTS];
        private final boolean[] sticking = new boolean[SEGMENTS];
        private int size = 0;

        Track() {
            for (int s = 0; s < SEGMENTS; s++) {
                goals[s] = NOTHING;
            }
        }

        int size() {
            return size;
        }

        boolean isFree(int s) {
            return goals[s] == NOTHING;
        }

        int kindAt(int s) {
            return kinds[s];
        }

        int goalAt(int s) {
            return goals[s];
        }

        boolean sticksAt(int s) {
            return sticking[s];
        }

        boolean isAtGoal(int s) {
            return goals[s] >= 0 && GOAL_SEGMENT[goals[s]] == s;
        }

        void setGoal(int s, int goal) {
            goals[s] = goal;
        }

        void setSticking(int s, boolean sticks) {
            sticking[s] = sticks;
        }

        void put(int s, int kind, int goal) {
            if (isFree(s)) {
                size++;
            }
            kinds[s] = kind;
            goals[s] = goal;
        }

        void clear(int s) {
            if (!isFree(s)) {
                size--;
            }
            kinds[s] = NO_KIND;
            goals[s] = NOTHING;
            sticking[s] = false;
        }

        void advance(int s) {
            if (s + 1 < SEGMENTS && isFree(s + 1)) {
                put(s + 1, kinds[s], goals[s]);
                clear(s);
            }
        }

        boolean anySticks() {
            for (int s = 0; s < SEGMENTS; s++) {
                if (sticking[s]) {
                    return true;
                }
            }
            return false;
        }

        int count(int kind) {
            int found = 0;
            for (int s = 0; s < SEGMENTS; s++) {
                if (!isFree(s) && kinds[s] == kind) {
                    found++;
                }
            }
            return found;
        }

        int countGoing(int goal) {
            int found = 0;
            for (int s = 0; s < SEGMENTS; s++) {
                if (goals[s] == goal) {
                    found++;
                }
            }
            return found;
        }
    }

    /** The escrow's pile. */
    private static final class Escrow {
        private final int[] pile = new int[ESCROW_ROOM];
        private int size = 0;

        int size() {
            return size;
        }

        /** Whether there was room. */
        boolean push(int kind) {
            if (size >= ESCROW_ROOM) {
                return false;
            }
            pile[size] = kind;
            size++;
            return true;
        }

        int pop() {
            if (size == 0) {
                return NO_KIND;
            }
            size--;
            return pile[size];
        }

        int count(int kind) {
            int found = 0;
            for (int i = 0; i < size; i++) {
                if (pile[i] == kind) {
                    found++;
                }
            }
            return found;
        }
    }

    /** The cassettes: notes of one kind are alike, so a pile is a number. */
    private static final class Magazine {
        private final int[] kinds = {1, 2, 3, 4};
        private final int[] sizes = new int[CASSETTES];

        int kindOf(int c) {
            return kinds[c];
        }

        void setKind(int c, int kind) {
            kinds[c] = kind;
        }

        int size(int c) {
            return sizes[c];
        }

        int room(int c) {
            return CASSETTE_ROOM - sizes[c];
        }

        void change(int c, int by) {
            sizes[c] += by;
        }

        /** Whether the cassette takes the note. */
        boolean push(int c, int kind) {
            if (!isCassette(c) || kinds[c] != kind || room(c) == 0) {
                return false;
            }
            sizes[c]++;
            return true;
        }

        int firstWith(int kind) {
            for (int c = 0; c < CASSETTES; c++) {
                if (kinds[c] == kind && sizes[c] > 0) {
                    return c;
                }
            }
            return -1;
        }

        int count(int kind) {
            int found = 0;
            for (int c = 0; c < CASSETTES; c++) {
                if (kinds[c] == kind) {
                    found += sizes[c];
                }
            }
            return found;
        }
    }

    /** Numbers by place and kind, of the places where no order of the notes matters. */
    private static final class Books {
        private final int[][] numbers = new int[PLACE_SLOT][HIGHEST_KIND + 1];

        int count(int place, int kind) {
            return numbers[place][kind];
        }

        void add(int place, int kind, int n) {
            numbers[place][kind] += n;
        }

        int total(int place) {
            int sum = 0;
            for (int kind = 0; kind <= HIGHEST_KIND; kind++) {
                sum += numbers[place][kind];
            }
            return sum;
        }

        /** All notes of a place go to another one: how many they were. */
        int pour(int from, int to) {
            int moved = total(from);
            for (int kind = 0; kind <= HIGHEST_KIND; kind++) {
                numbers[to][kind] += numbers[from][kind];
                numbers[from][kind] = 0;
            }
            return moved;
        }
    }

    /** The notes for an amount; in a payout, those that have still to come. */
    private static final class Plan {
        private final int[] have = new int[HIGHEST_KIND + 1];
        private final int[] counts = new int[HIGHEST_KIND + 1];
        private int size = 0;

        int size() {
            return size;
        }

        int count(int kind) {
            return counts[kind];
        }

        void drop() {
            size = 0;
            for (int kind = 0; kind <= HIGHEST_KIND; kind++) {
                counts[kind] = 0;
            }
        }

        int highestKind() {
            for (int kind = HIGHEST_KIND; kind >= 1; kind--) {
                if (counts[kind] > 0) {
                    return kind;
                }
            }
            return NO_KIND;
        }

        void strikeOut(int kind) {
            counts[kind]--;
            size--;
        }

        /** Whether there is a plan. */
        boolean find(int amount, Magazine magazine) {
            drop();
            for (int kind = 1; kind <= HIGHEST_KIND; kind++) {
                have[kind] = magazine.count(kind);
            }
            // The most of kind 5, then of 4, are tried first: of equal plans the first one stays.
            for (int fives = Math.min(have[5], amount / WORTH_OF_5); fives >= 0; fives--) {
                int rest = amount - fives * WORTH_OF_5;
                for (int fours = Math.min(have[4], rest / WORTH_OF_4); fours >= 0; fours--) {
                    fillUp(fives, fours, rest - fours * WORTH_OF_4);
                }
            }
            return size > 0;
        }

        /**
         * Each of the kinds 1, 2 and 3 is worth a multiple of the one before, so taking as many as
         * possible of the highest finds the fewest notes, and finds notes whenever there are any.
         */
        private void fillUp(int fives, int fours, int amount) {
            int threes = Math.min(have[3], amount / WORTH_OF_3);
            int rest = amount - threes * WORTH_OF_3;
            int twos = Math.min(have[2], rest / WORTH_OF_2);
            int ones = rest - twos * WORTH_OF_2;
            int sum = fives + fours + threes + twos + ones;
            if (ones > have[1] || sum > MOST_PLANNED || (size > 0 && sum >= size)) {
                return;
            }
            counts[1] = ones;
            counts[2] = twos;
            counts[3] = threes;
            counts[4] = fours;
            counts[5] = fives;
            size = sum;
        }
    }
}
