import java.lang.reflect.Array;
import java.lang.reflect.Field;
import java.lang.reflect.Modifier;
import java.util.ArrayDeque;
import java.util.Collections;
import java.util.Deque;
import java.util.IdentityHashMap;
import java.util.Set;

/**
 * The room of a run: what an object is made of stays far below it (LANGUAGE.md, rule 12; some
 * 600,000 objects and 7.3 million fields and elements for all calls), and no call adds to it.
 */
public final class RoomTest {
    private static final Checks checks = new Checks("RoomTest");

    private final Set<Object> met = Collections.newSetFromMap(new IdentityHashMap<>());
    private final Deque<Object> toLookAt = new ArrayDeque<>();
    private int parts = 0;

    private RoomTest(CoverTrees x) throws IllegalAccessException {
        meet(x);
        while (!toLookAt.isEmpty()) {
            Object object = toLookAt.remove();
            if (object.getClass().isArray()) {
                meetElements(object);
            } else {
                meetFields(object);
            }
        }
    }

    private void meet(Object object) {
        if (object != null && met.add(object)) {
            toLookAt.add(object);
        }
    }

    private void meetElements(Object array) {
        parts += Array.getLength(array);
        if (array instanceof Object[] rows) {
            for (Object row : rows) {
                meet(row);
            }
        }
    }

    private void meetFields(Object object) throws IllegalAccessException {
        for (Field field : object.getClass().getDeclaredFields()) {
            if (!Modifier.isStatic(field.getModifiers())) {
                parts++;
                if (!field.getType().isPrimitive()) {
                    field.setAccessible(true);
                    meet(field.get(object));
                }
            }
        }
    }

    private static void useUp(CoverTrees x) {
        for (int call = 0; call < 250; call++) {
            Checks.outcome(() -> x.explore());
            Checks.outcome(() -> x.graph());
        }
    }

    public static void main(String[] args) throws IllegalAccessException {
        RoomTest fresh = new RoomTest(new CoverTrees());
        checks.due("a new object is less than 300 objects and arrays", true, fresh.met.size() < 300);
        checks.due("a new object is less than 3000 fields and elements", true, fresh.parts < 3000);
        CoverTrees[] used = {
            Nets.chain(9, 1, 0, 0, 0, 0), Nets.grid(7, 6, 3), Nets.grid(3, 9, 0), Nets.growing(), Nets.full(),
        };
        for (CoverTrees x : used) {
            useUp(x);
            RoomTest room = new RoomTest(x);
            checks.due("objects and arrays after the calls", fresh.met.size(), room.met.size());
            checks.due("fields and elements after the calls", fresh.parts, room.parts);
        }
        checks.end();
    }
}
