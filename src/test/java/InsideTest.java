import java.lang.reflect.Field;
import java.lang.reflect.InvocationTargetException;
import java.lang.reflect.Method;

/**
 * The boundary cases that no run of calls comes to, because other rules keep the machine from them:
 * the inside is changed by hand just before. The sentence stands above its test.
 */
public final class InsideTest {
    public static void main(String[] args) throws ReflectiveOperationException {
        fullCassetteMakesTheGoalOverflow();
        cassetteOfAnotherKindMakesTheGoalOverflow();
        fullEscrowMakesTheGoalOverflow();
        noteTurnedAwayStaysIfTheNextSegmentIsTaken();
        balanceTellsOfFaultsWithoutSign();
        Check.finish();
    }

    private static Object part(CashRecycler x, String name) throws ReflectiveOperationException {
        Field field = CashRecycler.class.getDeclaredField(name);
        field.setAccessible(true);
        return field.get(x);
    }

    private static void call(Object part, String name, int... arguments) throws ReflectiveOperationException {
        for (Method method : part.getClass().getDeclaredMethods()) {
            if (method.getName().equals(name) && method.getParameterCount() == arguments.length) {
                method.setAccessible(true);
                Object[] boxed = new Object[arguments.length];
                for (int i = 0; i < arguments.length; i++) {
                    boxed[i] = arguments[i];
                }
                try {
                    method.invoke(part, boxed);
                } catch (InvocationTargetException e) {
                    throw new AssertionError(name + " threw " + e.getCause());
                }
                return;
            }
        }
        throw new AssertionError("no method " + name + " in " + part.getClass());
    }

    /** STORING, one note of kind c + 1 in the segment of its cassette c. */
    private static CashRecycler beforeCassette(int c) {
        CashRecycler x = Machines.escrowed(c + 1);
        x.confirm();
        x.step(c < 2 ? 2 : 3);
        return x;
    }

    private static void dueTurnedAway(CashRecycler x, int segment, int kind) {
        x.step(1);
        Check.due(9, "it went on in the same step", -1, x.belt(segment, 0));
        Check.due(9, "kind in segment " + (segment + 1), kind, x.belt(segment + 1, 0));
        Check.due(24, "its goal", 7, x.belt(segment + 1, 1));
        x.step(8 - segment);
        Check.due(9, "overflow", 1, x.notes(Machines.IN_OVERFLOW, kind));
    }

    // "a cassette ... that is full ... when the note would go in makes its goal OVERFLOW, and it goes on"
    private static void fullCassetteMakesTheGoalOverflow() throws ReflectiveOperationException {
        for (int c = 0; c < 4; c++) {
            CashRecycler x = beforeCassette(c);
            call(part(x, "magazine"), "change", c, 30);
            dueTurnedAway(x, c < 2 ? 5 : 6, c + 1);
            Check.due(23, "cassette " + c, 30, x.cassette(c, 0));
            CashRecycler room = beforeCassette(c);
            call(part(room, "magazine"), "change", c, 29);
            room.step(1);
            Check.due(23, "cassette " + c + " with room for one", 30, room.cassette(c, 0));
        }
    }

    // "a cassette ... of another kind, when the note would go in makes its goal OVERFLOW, and it goes on"
    private static void cassetteOfAnotherKindMakesTheGoalOverflow() throws ReflectiveOperationException {
        for (int c = 0; c < 4; c++) {
            CashRecycler x = beforeCassette(c);
            call(part(x, "magazine"), "setKind", c, 5);
            dueTurnedAway(x, c < 2 ? 5 : 6, c + 1);
            Check.due(23, "cassette " + c, 0, x.cassette(c, 0));
        }
    }

    // "a cassette or escrow that is full, ... when the note would go in makes its goal OVERFLOW, and it
    // goes on"
    private static void fullEscrowMakesTheGoalOverflow() throws ReflectiveOperationException {
        CashRecycler x = Machines.counting(2);
        x.step(5);
        for (int i = 0; i < 24; i++) {
            call(part(x, "escrow"), "push", 1);
        }
        dueTurnedAway(x, 4, 2);
        Check.due(22, "escrow", 24, Machines.all(x, Machines.IN_ESCROW));
    }

    // "... and it goes on", as any note does: if the next segment is free
    private static void noteTurnedAwayStaysIfTheNextSegmentIsTaken() throws ReflectiveOperationException {
        CashRecycler x = Machines.escrowed(1, 5);
        x.confirm();
        x.step(3);
        Machines.shows(9, x, ".....15...");
        call(part(x, "magazine"), "change", 0, 30);
        x.stick(6);
        x.step(1);
        Machines.shows(9, x, ".....15...");
        Check.due(24, "its goal", 7, x.belt(5, 1));
    }

    // Promise 25: "In minus all that is told of by the books, of all kinds together, each without sign"
    private static void balanceTellsOfFaultsWithoutSign() throws ReflectiveOperationException {
        CashRecycler x = Machines.filled(3, 3, 3, 3);
        int[] places = {2, 4, 5, 6, 7, 8, 9};
        for (int place : places) {
            for (int kind = 1; kind <= 5; kind++) {
                call(part(x, "books"), "add", place, kind, 2);
                Check.due(25, "two more in place " + place, 2, x.balance());
                call(part(x, "books"), "add", place, kind, -4);
                Check.due(25, "two fewer in place " + place, 2, x.balance());
                call(part(x, "books"), "add", place, kind, 2);
            }
            call(part(x, "books"), "add", place, 1, 1);
            call(part(x, "books"), "add", place, 5, -1);
            Check.due(25, "one more of a kind, one fewer of another", 2, x.balance());
            call(part(x, "books"), "add", place, 1, -1);
            call(part(x, "books"), "add", place, 5, 1);
            call(part(x, "books"), "add", place == 9 ? 2 : place, 0, 7);
            Check.due(25, "notes without kind", 0, x.balance());
        }
        call(part(x, "magazine"), "change", 3, 1);
        Check.due(25, "one more in a cassette", 1, x.balance());
        call(part(x, "escrow"), "push", 4);
        Check.due(25, "one more in the escrow", 2, x.balance());
        call(part(x, "track"), "put", 0, 4, 8);
        Check.due(25, "one more on the belt", 3, x.balance());
    }
}
