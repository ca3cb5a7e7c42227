import java.lang.reflect.Array;
import java.lang.reflect.Field;
import java.lang.reflect.Method;
import java.lang.reflect.Modifier;
import java.util.ArrayDeque;
import java.util.Collections;
import java.util.Deque;
import java.util.IdentityHashMap;
import java.util.List;
import java.util.Set;
import java.util.TreeSet;

/**
 * All calls of one run live in one room, so that an object is small and calls add nothing to it; and what
 * LANGUAGE.md says of fields and names, as far as the compiled classes can tell.
 */
public final class RoomTest {
    /** By this, a run could make some 1500 objects; each may have 512 calls. */
    private static final int PARTS_AT_MOST = 4800;
    private static final int OBJECTS_AT_MOST = 60;
    private static final Set<Class<?>> OF_A_STATIC = Set.of(int.class, long.class, boolean.class, char.class,
        String.class, int[].class, long[].class, char[].class, byte[].class);

    public static void main(String[] args) throws IllegalAccessException {
        Check check = new Check();
        int[] made = sizeOf(new TriangleRest());
        check.holds("a new object is small: " + made[0] + " objects", made[0] <= OBJECTS_AT_MOST);
        check.holds("a new object is small: " + made[1] + " fields and elements", made[1] <= PARTS_AT_MOST);
        TriangleRest used = Twins.full();
        askAll(used);
        int[] then = sizeOf(used);
        check.due("objects of one that is full", then[0], made[0]);
        check.due("fields and elements of one that is full", then[1], made[1]);
        names(check);
        fields(check, TriangleRest.class);
        for (Class<?> inside : TriangleRest.class.getDeclaredClasses()) {
            fields(check, inside);
        }
        check.end();
    }

    private static void askAll(TriangleRest x) {
        x.places(-1);
        x.listen();
        x.pack(5);
        x.trim(0);
        x.odds(3, 999, 0);
        x.back(0);
        x.undo();
        x.cue();
        x.clear();
        Check.type(x, "s3 1 0;t2;n0 2;");
        x.piece();
    }

    /** How many objects can be reached, and how many fields and elements they have. */
    private static int[] sizeOf(Object root) throws IllegalAccessException {
        Set<Object> seen = Collections.newSetFromMap(new IdentityHashMap<>());
        Deque<Object> open = new ArrayDeque<>(List.of(root));
        int parts = 0;
        while (!open.isEmpty()) {
            Object next = open.removeLast();
            if (seen.add(next)) {
                parts += next.getClass().isArray() ? elements(next, open) : instanceFields(next, open);
            }
        }
        return new int[] {seen.size(), parts};
    }

    private static int elements(Object array, Deque<Object> open) {
        for (int i = 0; i < Array.getLength(array) && !array.getClass().getComponentType().isPrimitive(); i++) {
            open.add(Array.get(array, i));
        }
        return Array.getLength(array);
    }

    private static int instanceFields(Object object, Deque<Object> open) throws IllegalAccessException {
        int fields = 0;
        for (Class<?> c = object.getClass(); c != Object.class; c = c.getSuperclass()) {
            for (Field f : c.getDeclaredFields()) {
                if (!Modifier.isStatic(f.getModifiers())) {
                    fields++;
                    f.setAccessible(true);
                    Object value = f.getType().isPrimitive() ? null : f.get(object);
                    if (value != null) {
                        open.add(value);
                    }
                }
            }
        }
        return fields;
    }

    private static void names(Check check) {
        Set<String> face = new TreeSet<>();
        for (Method m : TriangleRest.class.getMethods()) {
            face.add(m.getName());
        }
        for (Class<?> inside : TriangleRest.class.getDeclaredClasses()) {
            for (Method m : inside.getDeclaredMethods()) {
                check.holds(m + " has a name of its own", !face.contains(m.getName()));
            }
        }
    }

    private static void fields(Check check, Class<?> of) {
        int own = 0;
        for (Field f : of.getDeclaredFields()) {
            if (Modifier.isStatic(f.getModifiers())) {
                check.holds(f + " is final", Modifier.isFinal(f.getModifiers()));
                check.holds(f + " is of a type that a constant may have", OF_A_STATIC.contains(f.getType()));
            } else {
                own++;
            }
        }
        check.holds(of + " has at most twenty fields: " + own, own <= 20);
    }
}
