import java.lang.reflect.Array;
import java.lang.reflect.Field;
import java.lang.reflect.Modifier;
import java.util.ArrayDeque;
import java.util.IdentityHashMap;
import java.util.Map;

/**
 * What an object keeps, against the room that all calls of a run have together: even if each of 512
 * calls made an object anew, all of them would fit; and calls keep nothing that was not there before.
 */
public final class RoomTest {
    private static final int MOST_CALLS = 512;
    private static final long MOST_OBJECTS = 600000;
    private static final long MOST_ELEMENTS = 7300000;

    public static void main(String[] args) throws IllegalAccessException {
        Map<Object, Long> kept = keptBy(new PlanCertificates());
        long elements = 0;
        for (long each : kept.values()) {
            elements += each;
        }
        System.out.println(kept.size() + " objects and arrays, " + elements + " fields and elements");
        Checks.due("objects fit", (long) MOST_CALLS * kept.size() <= MOST_OBJECTS ? 1 : 0, 1);
        Checks.due("elements fit", MOST_CALLS * elements <= MOST_ELEMENTS ? 1 : 0, 1);
        callsKeepNothingNew();
        Checks.finish();
    }

    private static void callsKeepNothingNew() throws IllegalAccessException {
        PlanCertificates x = new PlanCertificates();
        Map<Object, Long> before = keptBy(x);
        for (int again = 0; again < 2; again++) {
            Checks.put(x, Fill.MODEL);
            Checks.due("model()", x.model(), 1);
            Checks.plan(x, 1, 5);
            x.begin();
            Fill.read(x, 1499, 10);
            Checks.due("fault(0)", x.fault(0), 2);
            Checks.trim(x, 7);
            Checks.state(x);
            Checks.due("no such row", Checks.trim(x, 200), Checks.THROWS_INDEX);
        }
        Map<Object, Long> after = keptBy(x);
        Checks.due("objects kept", after.size(), before.size());
        for (Object each : after.keySet()) {
            Checks.due("there before", before.containsKey(each) ? 1 : 0, 1);
        }
    }

    /** All objects and arrays that are reached from one, each with how many fields or elements it has. */
    private static Map<Object, Long> keptBy(Object root) throws IllegalAccessException {
        Map<Object, Long> found = new IdentityHashMap<>();
        ArrayDeque<Object> open = new ArrayDeque<>();
        open.add(root);
        while (!open.isEmpty()) {
            Object next = open.remove();
            if (!found.containsKey(next)) {
                found.put(next, next.getClass().isArray() ? elementsOf(next, open) : fieldsOf(next, open));
            }
        }
        return found;
    }

    private static long elementsOf(Object array, ArrayDeque<Object> open) {
        int length = Array.getLength(array);
        if (!array.getClass().getComponentType().isPrimitive()) {
            for (int i = 0; i < length; i++) {
                open.add(Array.get(array, i));
            }
        }
        return length;
    }

    private static long fieldsOf(Object object, ArrayDeque<Object> open) throws IllegalAccessException {
        long fields = 0;
        for (Field field : object.getClass().getDeclaredFields()) {
            if (!Modifier.isStatic(field.getModifiers())) {
                fields++;
                field.setAccessible(true);
                if (!field.getType().isPrimitive()) {
                    open.add(field.get(object));
                }
            }
        }
        return fields;
    }
}
