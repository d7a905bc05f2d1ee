import com.sun.management.ThreadMXBean;
import java.lang.management.ManagementFactory;
import java.lang.reflect.Array;
import java.lang.reflect.Field;
import java.lang.reflect.Modifier;

/**
 * All calls of a run share one room, so an object holds little and its calls make nothing (rule 12 of
 * LANGUAGE.md).
 */
public final class RoomTest {
    private static final int MOST_OBJECTS = 60;
    private static final int MOST_PARTS = 500;
    private static final int MACHINES = 3000;
    /** A round is 48 calls, and a machine is used for no more than 512. */
    private static final int ROUNDS = 10;
    /** The virtual machine itself makes a little now and then; one object a call would be megabytes. */
    private static final long MOST_BYTES = 100000;

    private static int objects = 0;
    private static int parts = 0;
    private static long answers = 0;

    public static void main(String[] args) throws IllegalAccessException {
        Check.numbers("rule");
        holdsLittle();
        callsMakeNothing();
        Check.finish();
    }

    private static void holdsLittle() throws IllegalAccessException {
        count(new CashRecycler());
        Check.due(12, objects + " objects and arrays are few", true, objects <= MOST_OBJECTS);
        Check.due(12, parts + " fields and elements are few", true, parts <= MOST_PARTS);
    }

    /** No two fields hold the same object, so each is counted once. */
    private static void count(Object holder) throws IllegalAccessException {
        objects++;
        if (holder.getClass().isArray()) {
            for (int i = 0; i < Array.getLength(holder); i++) {
                parts++;
                if (!holder.getClass().getComponentType().isPrimitive()) {
                    count(Array.get(holder, i));
                }
            }
            return;
        }
        for (Field field : holder.getClass().getDeclaredFields()) {
            if (!Modifier.isStatic(field.getModifiers())) {
                parts++;
                field.setAccessible(true);
                if (!field.getType().isPrimitive()) {
                    count(field.get(holder));
                }
            }
        }
    }

    private static void callsMakeNothing() {
        CashRecycler[] machines = new CashRecycler[MACHINES];
        for (int i = 0; i < MACHINES; i++) {
            machines[i] = new CashRecycler();
        }
        // What the first calls load into the virtual machine is not theirs.
        rounds(new CashRecycler());
        ThreadMXBean threads = (ThreadMXBean) ManagementFactory.getThreadMXBean();
        long thread = Thread.currentThread().getId();
        long before = threads.getThreadAllocatedBytes(thread);
        for (CashRecycler x : machines) {
            rounds(x);
        }
        long made = threads.getThreadAllocatedBytes(thread) - before;
        Check.due(12, made + " bytes made by calls are few", true, made <= MOST_BYTES);
        Check.due(12, "the rounds were made", true, answers > MACHINES);
    }

    private static void rounds(CashRecycler x) {
        for (int i = 0; i < ROUNDS; i++) {
            round(x);
        }
    }

    /** All calls of the face, from IDLE to IDLE, none of them refused. */
    private static void round(CashRecycler x) {
        answers += x.insert(3) + x.verdict(1) + x.verdict(5) + x.verdict(0);
        x.deposit();
        answers += x.step(30) + x.taken();
        x.confirm();
        answers += x.step(30);
        refill(x);
        answers += x.plan(87, 1) + x.payout(87) + x.step(3);
        jamAndRecover(x);
        answers += x.taken() + x.insert(1) + x.verdict(2);
        x.deposit();
        answers += x.step(30);
        x.giveBack();
        answers += x.step(2) + (x.power() ? 1 : 0) + (x.power() ? 1 : 0) + x.step(30) + x.taken();
        answers += x.state() + x.notes(1, 1) + x.cassette(0, 0) + x.belt(0, 0) + x.balance();
    }

    private static void refill(CashRecycler x) {
        x.service();
        for (int place = 0; place <= 5; place++) {
            answers += x.empty(place);
        }
        x.kind(0, 1);
        for (int c = 0; c < 4; c++) {
            answers += x.refill(c, 30);
        }
        x.service();
    }

    private static void jamAndRecover(CashRecycler x) {
        x.stick(6);
        answers += x.step(2);
        x.open();
        answers += (x.free(6) ? 1 : 0) + x.remove(6) + x.close() + x.step(30);
    }
}
