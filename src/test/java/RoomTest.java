import java.lang.reflect.Array;
import java.lang.reflect.Field;
import java.lang.reflect.Modifier;
import java.util.Collections;
import java.util.IdentityHashMap;
import java.util.Set;

/** All calls of one run live in one room: even a run that makes nothing but new objects fits into it. */
public final class RoomTest {
    private static final long OBJECTS = 600_000;
    private static final long ELEMENTS = 7_300_000;
    private static final int CALLS = 512;

    private final Set<Object> met = Collections.newSetFromMap(new IdentityHashMap<>());
    private long elements = 0;

    public static void main(String[] args) throws IllegalAccessException {
        Due.part("room");
        RoomTest made = countOf(new LeastBars());
        Due.holds("objects of " + CALLS + " at " + made.met.size(), (long) made.met.size() * CALLS < OBJECTS);
        Due.holds("elements of " + CALLS + " at " + made.elements, made.elements * CALLS < ELEMENTS);
        RoomTest used = countOf(Plants.going());
        RoomTest most = countOf(Plants.rowThatClashes());
        Due.is("calls keep no object more", used.met.size(), made.met.size());
        Due.is("calls keep no object more", most.met.size(), made.met.size());
        Due.is("calls keep no element more", used.elements, made.elements);
        Due.is("calls keep no element more", most.elements, made.elements);
        Due.close();
    }

    private static RoomTest countOf(LeastBars x) throws IllegalAccessException {
        RoomTest room = new RoomTest();
        room.count(x);
        return room;
    }

    private void count(Object one) throws IllegalAccessException {
        if (one == null || !met.add(one)) {
            return;
        }
        if (one.getClass().isArray()) {
            elements += Array.getLength(one);
            if (one instanceof Object[] row) {
                for (Object part : row) {
                    count(part);
                }
            }
            return;
        }
        for (Field field : one.getClass().getDeclaredFields()) {
            if (!Modifier.isStatic(field.getModifiers())) {
                elements++;
                field.setAccessible(true);
                if (!field.getType().isPrimitive()) {
                    count(field.get(one));
                }
            }
        }
    }
}
