import java.lang.reflect.Array;
import java.lang.reflect.Field;
import java.lang.reflect.Modifier;
import java.util.ArrayDeque;
import java.util.Collections;
import java.util.Deque;
import java.util.IdentityHashMap;
import java.util.Set;

/** That the objects of a run of calls fit into its room, even if each of its 512 calls makes a new object. */
public final class RoomTest {
    private static final int CALLS = 512;
    private static final int OBJECTS = 600_000;
    private static final int ELEMENTS = 7_300_000;

    private static final Due due = new Due();

    public static void main(String[] args) throws ReflectiveOperationException {
        FarCells x = new FarCells(2, 2, 8);
        long[] before = sizeOf(x);
        due.is("objects of " + CALLS + " new ones fit", before[0] * CALLS <= OBJECTS ? 1 : 0, 1);
        due.is("elements of " + CALLS + " new ones fit", before[1] * CALLS <= ELEMENTS ? 1 : 0, 1);
        useAll(x);
        long[] after = sizeOf(x);
        due.is("objects behind many calls", after[0], before[0]);
        due.is("elements behind many calls", after[1], before[1]);
        due.end();
    }

    private static void useAll(FarCells x) {
        for (int p = 0; p < 20; p++) {
            x.page(p % 4);
        }
        for (int t = 0; t < 10; t++) {
            x.thread(t % 4);
        }
        x.rule(1, 2, 10);
        for (int i = 0; i < 600; i++) {
            x.access(i % 10, i % 20, i % 4, i % 3 == 0, i);
        }
        for (int i = 0; i < 10; i++) {
            x.run(200);
            x.other(2, 1, 10, 200);
        }
        for (int d = 0; d < 8; d++) {
            x.make(d, 3 + d % 2, 60);
            x.keep(d, 3 + d % 2, d);
            x.keep(d, 1, d);
            x.weight(d);
            x.toss(d);
        }
        for (int p = 0; p < 20; p++) {
            x.best(p);
            x.gap(p);
        }
        x.same();
    }

    /** How many objects and arrays stand behind one, and how many fields and elements they have. */
    private static long[] sizeOf(Object root) throws ReflectiveOperationException {
        Set<Object> seen = Collections.newSetFromMap(new IdentityHashMap<>());
        Deque<Object> open = new ArrayDeque<>();
        open.add(root);
        seen.add(root);
        long elements = 0;
        while (!open.isEmpty()) {
            Object next = open.remove();
            elements += next.getClass().isArray() ? elementsOf(next, seen, open) : fieldsOf(next, seen, open);
        }
        return new long[] {seen.size(), elements};
    }

    private static int elementsOf(Object array, Set<Object> seen, Deque<Object> open) {
        if (!array.getClass().getComponentType().isPrimitive()) {
            for (Object held : (Object[]) array) {
                meet(held, seen, open);
            }
        }
        return Array.getLength(array);
    }

    private static int fieldsOf(Object object, Set<Object> seen, Deque<Object> open)
            throws ReflectiveOperationException {
        int fields = 0;
        for (Field f : object.getClass().getDeclaredFields()) {
            if (!Modifier.isStatic(f.getModifiers())) {
                fields++;
                f.setAccessible(true);
                if (!f.getType().isPrimitive()) {
                    meet(f.get(object), seen, open);
                }
            }
        }
        return fields;
    }

    private static void meet(Object held, Set<Object> seen, Deque<Object> open) {
        if (held != null && seen.add(held)) {
            open.add(held);
        }
    }
}
