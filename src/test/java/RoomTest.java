import java.lang.reflect.Array;
import java.lang.reflect.Field;
import java.lang.reflect.Modifier;
import java.util.ArrayDeque;
import java.util.Collections;
import java.util.IdentityHashMap;
import java.util.Set;

/** The room that a desk takes: little when it is made, and no more behind its calls. */
public final class RoomTest {
    public static void main(String[] args) throws IllegalAccessException {
        Checks c = new Checks("RoomTest");
        ExecutiveDesk x = Checks.desk(1, 2, 3);
        int[] before = room(x);
        c.due("at most 250 objects and arrays, there are " + before[0], 1, before[0] <= 250 ? 1 : 0);
        c.due("at most 1500 fields and elements, there are " + before[1], 1, before[1] <= 1500 ? 1 : 0);
        for (int i = 0; i < 50; i++) {
            x.create(i % 6, 0, -1);
            x.rule(i % 8, 1, 0, 1);
            x.transfer(5, i, 10, 0);
            x.await(0, 1, 2, i % 4, i % 3);
            x.call(i % 3, 5);
            x.tick(2);
            x.interrupt(5, true);
            x.close(i % 8);
        }
        int[] behind = room(x);
        c.due("objects behind 400 calls", before[0], behind[0]);
        c.due("elements behind 400 calls", before[1], behind[1]);
        c.end();
    }

    /** How many objects can be reached from the desk, and how many fields and elements they have. */
    private static int[] room(Object desk) throws IllegalAccessException {
        Set<Object> seen = Collections.newSetFromMap(new IdentityHashMap<>());
        ArrayDeque<Object> open = new ArrayDeque<>();
        open.add(desk);
        int elements = 0;
        while (!open.isEmpty()) {
            Object o = open.poll();
            if (!seen.add(o)) {
                continue;
            }
            if (o.getClass().isArray()) {
                elements += Array.getLength(o);
                if (!o.getClass().getComponentType().isPrimitive()) {
                    Collections.addAll(open, (Object[]) o);
                }
                continue;
            }
            for (Field field : o.getClass().getDeclaredFields()) {
                if (Modifier.isStatic(field.getModifiers())) {
                    continue;
                }
                elements++;
                field.setAccessible(true);
                if (!field.getType().isPrimitive()) {
                    open.add(field.get(o));
                }
            }
        }
        return new int[] {seen.size(), elements};
    }
}
