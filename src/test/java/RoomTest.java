import java.lang.reflect.Array;
import java.lang.reflect.Field;
import java.lang.reflect.Modifier;
import java.util.ArrayDeque;
import java.util.Collections;
import java.util.Deque;
import java.util.IdentityHashMap;
import java.util.Set;

/**
 * What an object holds, itself and all that it leads to: little of the room that all calls have
 * (LANGUAGE.md, rule 12), and used again by call after call.
 */
public final class RoomTest {
    private static final String TEXT = "b0: v1 = v2 + v3; if v1 < 9 b1 b2; b1: v4 = v2 + v3; tell v4;"
        + "go b2; b2: v5 = v2 + v3; v6 = r0[v1]; r0[1] = 3; v7 = 8 / v6; tell v7; leave;";

    private static int elements;

    public static void main(String[] args) throws Exception {
        LateAndEarly x = new LateAndEarly();
        Set<Object> held = holds(x);
        Check.due("objects of a new one", held.size() < 100 ? 1 : 0, 1);
        Check.due("elements of a new one", elements > 3000 && elements < 25000 ? 1 : 0, 1);
        for (int p = 0; p < 4; p++) {
            allCalls(x, p);
        }
        held = holds(x);
        Check.due("objects with four ROUTINES", held.size() < 250 ? 1 : 0, 1);
        Check.due("elements with four ROUTINES", elements < 50000 ? 1 : 0, 1);
        for (int i = 0; i < 10; i++) {
            allCalls(x, i % 4);
            Set<Object> then = holds(x);
            Check.due("as many objects", then.size(), held.size());
            Check.due("the same objects", held.containsAll(then) ? 1 : 0, 1);
        }
        Check.end("RoomTest");
    }

    private static void allCalls(LateAndEarly x, int p) {
        Check.due("parse", Check.parse(x, p, TEXT) > 0 ? 1 : 0, 1);
        x.name(2, p);
        x.step(p, 0);
        x.step(p, 1);
        for (int placing = 0; placing < 3; placing++) {
            x.run(p, placing);
            x.write(p, placing);
            x.works(p, placing, 0);
            x.life(p, placing, 0);
            x.places(p, placing, 0, 0);
            x.placed(p, placing, 0, 0, 0);
        }
        Check.due("a FAULT", Check.parse(x, p, "b0: go b1;"), -17);
        x.at(p, 0, 0, 2);
        x.sum(p, 0, 4);
        x.node(p, 0, 0);
        x.home(p);
    }

    /** All objects and arrays that x leads to; their fields and elements are counted, too. */
    private static Set<Object> holds(LateAndEarly x) throws Exception {
        Set<Object> found = Collections.newSetFromMap(new IdentityHashMap<>());
        Deque<Object> open = new ArrayDeque<>();
        elements = 0;
        open.add(x);
        while (!open.isEmpty()) {
            Object one = open.remove();
            if (!found.add(one)) {
                continue;
            }
            if (one.getClass().isArray()) {
                addElements(one, open);
            } else {
                addFields(one, open);
            }
        }
        return found;
    }

    private static void addElements(Object array, Deque<Object> open) {
        elements += Array.getLength(array);
        if (!array.getClass().getComponentType().isPrimitive()) {
            for (Object one : (Object[]) array) {
                if (one != null) {
                    open.add(one);
                }
            }
        }
    }

    private static void addFields(Object one, Deque<Object> open) throws Exception {
        for (Field field : one.getClass().getDeclaredFields()) {
            if (!Modifier.isStatic(field.getModifiers())) {
                elements++;
                field.setAccessible(true);
                if (!field.getType().isPrimitive() && field.get(one) != null) {
                    open.add(field.get(one));
                }
            }
        }
    }
}
