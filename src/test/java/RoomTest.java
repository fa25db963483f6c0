import java.lang.reflect.Array;
import java.lang.reflect.Field;
import java.lang.reflect.Modifier;
import java.util.ArrayDeque;
import java.util.Collections;
import java.util.Deque;
import java.util.IdentityHashMap;
import java.util.Set;

/**
 * What one tree holds: its objects and arrays, and their fields and elements. With LanguageTest, which
 * sees that only constructors make something, this is all that a run of calls takes of the room.
 */
public final class RoomTest {
    private static final int MOST_OBJECTS = 250;
    private static final int MOST_PARTS = 2000;

    private final Set<Object> seen = Collections.newSetFromMap(new IdentityHashMap<>());
    private final Deque<Object> open = new ArrayDeque<>();
    private int parts = 0;

    public static void main(String[] args) throws ReflectiveOperationException {
        SurrogateTree tree = new SurrogateTree();
        RoomTest before = measure(tree);
        Check.isTrue(before.seen.size() + " objects and arrays", before.seen.size() <= MOST_OBJECTS);
        Check.isTrue(before.parts + " fields and elements", before.parts <= MOST_PARTS);
        use(tree);
        RoomTest after = measure(tree);
        Check.isTrue("the same objects before and after the calls", after.seen.equals(before.seen));
        Check.same("fields and elements after the calls", after.parts, before.parts);
        Check.end();
    }

    /** Fewer than 512 calls, each method among them. */
    private static void use(SurrogateTree tree) {
        for (int[] r : Trees.SIXTEEN) {
            tree.addRow(r[0], r[1], r[2], r[3]);
        }
        tree.begin(0, 4, 1);
        tree.bag(7);
        Trees.growWhole(tree);
        tree.tally();
        tree.even();
        Trees.growWhole(tree);
        tree.cut(1, 2);
        Snapshot.of(tree);
    }

    private static RoomTest measure(Object root) throws ReflectiveOperationException {
        RoomTest room = new RoomTest();
        room.meet(root);
        while (!room.open.isEmpty()) {
            room.lookInto(room.open.pop());
        }
        return room;
    }

    private void meet(Object found) {
        if (found != null && seen.add(found)) {
            open.push(found);
        }
    }

    private void lookInto(Object object) throws ReflectiveOperationException {
        Class<?> type = object.getClass();
        if (type.isArray()) {
            int length = Array.getLength(object);
            parts += length;
            for (int i = 0; i < length && !type.getComponentType().isPrimitive(); i++) {
                meet(Array.get(object, i));
            }
            return;
        }
        for (Field field : type.getDeclaredFields()) {
            if (!Modifier.isStatic(field.getModifiers())) {
                parts++;
                field.setAccessible(true);
                if (!field.getType().isPrimitive()) {
                    meet(field.get(object));
                }
            }
        }
    }
}
