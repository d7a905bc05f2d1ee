/** Machines in the states that several tests begin with, and the numbers of the face. */
final class Machines {
    static final int IDLE = 0;
    static final int COUNTING = 1;
    static final int ESCROWED = 2;
    static final int STORING = 3;
    static final int RETURNING = 4;
    static final int PAYING = 5;
    static final int JAMMED = 6;
    static final int RECOVERING = 7;
    static final int SERVICE = 8;

    static final int IN_ESCROW = 0;
    static final int IN_CASSETTES = 1;
    static final int IN_OVERFLOW = 2;
    static final int ON_BELT = 3;
    static final int IN_REJECT = 4;
    static final int IN_TRAY = 5;
    static final int TAKEN = 6;
    static final int EMPTIED = 7;
    static final int MISSING = 8;
    static final int CAME_IN = 9;
    static final int IN_SLOT = 10;

    private Machines() {
    }

    /** COUNTING, as many notes in the slot as there are verdicts. */
    static CashRecycler counting(int... verdicts) {
        CashRecycler x = new CashRecycler();
        startCounting(x, verdicts);
        return x;
    }

    static void startCounting(CashRecycler x, int... verdicts) {
        for (int verdict : verdicts) {
            x.insert(1);
            x.verdict(verdict);
        }
        x.deposit();
    }

    /** ESCROWED, a note for each verdict judged. */
    static CashRecycler escrowed(int... verdicts) {
        CashRecycler x = counting(verdicts);
        x.step(100);
        return x;
    }

    /** IDLE, cassette c with so many notes of kind c + 1. */
    static CashRecycler filled(int... sizes) {
        CashRecycler x = new CashRecycler();
        x.service();
        for (int c = 0; c < sizes.length; c++) {
            if (sizes[c] > 0) {
                x.refill(c, sizes[c]);
            }
        }
        x.service();
        return x;
    }

    /** IDLE, with cassettes of these kinds and sizes: kind, size, kind, size, ... */
    static CashRecycler withKinds(int... kindsAndSizes) {
        CashRecycler x = new CashRecycler();
        x.service();
        for (int c = 0; 2 * c < kindsAndSizes.length; c++) {
            x.kind(c, kindsAndSizes[2 * c]);
            if (kindsAndSizes[2 * c + 1] > 0) {
                x.refill(c, kindsAndSizes[2 * c + 1]);
            }
        }
        x.service();
        return x;
    }

    /** JAMMED in a payout of one note of kind 1 that sticks in segment 5. */
    static CashRecycler jammed() {
        CashRecycler x = filled(3);
        x.payout(1);
        x.step(1);
        x.stick(5);
        x.step(2);
        return x;
    }

    static CashRecycler opened() {
        CashRecycler x = jammed();
        x.open();
        return x;
    }

    /** The same machine, the power cut. */
    static CashRecycler cut(CashRecycler x) {
        x.power();
        return x;
    }

    /** So many notes into the slot, in as many goes as insert needs. */
    static void insertAll(CashRecycler x, int n) {
        for (int left = n; left > 0; left -= 20) {
            x.insert(Math.min(left, 20));
        }
    }

    static void verdicts(CashRecycler x, int n, int kind) {
        for (int i = 0; i < n; i++) {
            x.verdict(kind);
        }
    }

    /** COUNTING, so many notes in the slot, all of them to be of one kind. */
    static CashRecycler countingMany(int n, int kind) {
        CashRecycler x = new CashRecycler();
        insertAll(x, n);
        verdicts(x, n, kind);
        x.deposit();
        return x;
    }

    static void blink(CashRecycler x) {
        x.power();
        x.power();
    }

    static int all(CashRecycler x, int place) {
        int sum = 0;
        for (int kind = 0; kind <= 5; kind++) {
            sum += x.notes(place, kind);
        }
        return sum;
    }

    /** The kind in each segment from 0 to 9, '.' where there is no note. */
    static String picture(CashRecycler x) {
        StringBuilder text = new StringBuilder();
        for (int s = 0; s < 10; s++) {
            int kind = x.belt(s, 0);
            text.append(kind < 0 ? "." : "" + kind);
        }
        return text.toString();
    }

    /** All that can be asked without a change: 106 calls. */
    static String snapshot(CashRecycler x) {
        StringBuilder text = new StringBuilder();
        text.append("state ").append(x.state()).append(", balance ").append(x.balance()).append(", notes");
        for (int place = 0; place <= 10; place++) {
            text.append(' ');
            for (int kind = 0; kind <= 5; kind++) {
                text.append(x.notes(place, kind)).append(kind < 5 ? "," : "");
            }
        }
        text.append(", cassettes");
        for (int c = 0; c < 4; c++) {
            text.append(' ').append(x.cassette(c, 0)).append(" of ").append(x.cassette(c, 1));
        }
        text.append(", belt");
        for (int s = 0; s < 10; s++) {
            text.append(' ').append(x.belt(s, 0)).append(',').append(x.belt(s, 1)).append(',').append(x.belt(s, 2));
        }
        return text.toString();
    }

    static void shows(int promise, CashRecycler x, String due) {
        Check.same(promise, "the belt", due, picture(x));
    }

    /** A picture for each step; the state stays until the last of them. */
    static void stepThrough(int promise, CashRecycler x, String[] due, int state, int lastState) {
        for (int i = 0; i < due.length; i++) {
            int then = i < due.length - 1 ? state : lastState;
            Check.due(promise, "state after step " + (i + 1), then, x.step(1));
            shows(promise, x, due[i]);
        }
    }
}
