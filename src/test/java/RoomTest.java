import java.lang.reflect.Array;
import java.lang.reflect.Field;
import java.lang.reflect.Modifier;
import java.util.ArrayDeque;
import java.util.Collections;
import java.util.Deque;
import java.util.IdentityHashMap;
import java.util.Set;

/** The one room that all calls of a run live in: what an object holds, counted, and that calls hold nothing more. */
public final class RoomTest {
    private static final Due due = new Due("RoomTest");
    private static final int ROOM_OBJECTS = 600000, ROOM_ELEMENTS = 7300000;
    private static final int MANY_IN_ONE_ROOM = 1000;
    private static final int CALLS = 512;

    private final Set<Object> seen = Collections.newSetFromMap(new IdentityHashMap<>());
    private int elements;

    public static void main(String[] args) throws IllegalAccessException {
        RoomTest fresh = new RoomTest();
        fresh.count(new HopMeet());
        due.holds("objects and arrays of " + MANY_IN_ONE_ROOM + ": " + fresh.seen.size() + " each",
            fresh.seen.size() * MANY_IN_ONE_ROOM <= ROOM_OBJECTS);
        due.holds("fields and elements of " + MANY_IN_ONE_ROOM + ": " + fresh.elements + " each",
            fresh.elements * MANY_IN_ONE_ROOM <= ROOM_ELEMENTS);
        callsHoldNothingMore();
        due.end();
    }

    /** The same objects and arrays, none more and none in another's place, whatever was called. */
    private static void callsHoldNothingMore() throws IllegalAccessException {
        HopMeet x = new HopMeet();
        RoomTest ahead = new RoomTest();
        ahead.count(x);
        for (int call = 0; call < CALLS; call++) {
            callOne(x, call % 22, call);
        }
        RoomTest behind = new RoomTest();
        behind.count(x);
        due.is("elements after " + CALLS + " calls", behind.elements, ahead.elements);
        due.is("objects after " + CALLS + " calls", behind.seen.size(), ahead.seen.size());
        due.holds("the objects are the same after " + CALLS + " calls", ahead.seen.containsAll(behind.seen));
    }

    private static int callOne(HopMeet x, int which, int n) {
        switch (which) {
            case 0: return n == 0 ? x.channels(10) : x.told(n % 9);
            case 1: return x.user(n % 4, n % 100, n % 100, n % 50);
            case 2: return x.user(0, n % 100, n % 100, n % 50);
            case 3: return x.open(0, n);
            case 4: return x.set(1, n % 4, n % 4);
            case 5: return x.shut(n % 3 - 1, n % 10, n, 9);
            case 6: return x.drift(n + 1);
            case 7: return n % 3 == 0 ? x.undo() : x.userOf(0, n % 7);
            case 8: return x.pointsAt(0, n);
            case 9: return x.on(1, n);
            case 10: return x.why(1, n);
            case 11: return x.first(0, 1);
            case 12: return x.worst(0, 1, 20);
            case 13: return x.bound(0, 1, 20, n);
            case 14: return x.together(0, 1, n);
            case 15: return x.even(0, n + 1);
            case 16: return x.run(n % 200 + 1);
            case 17: return x.merge();
            case 18: return x.part();
            case 19: return x.keep(n % 2);
            case 20: return x.goBack(n % 2);
            default: return x.told(n % 9);
        }
    }

    private void count(Object root) throws IllegalAccessException {
        Deque<Object> toLookAt = new ArrayDeque<>();
        toLookAt.add(root);
        while (!toLookAt.isEmpty()) {
            Object o = toLookAt.remove();
            if (seen.add(o)) {
                if (o.getClass().isArray()) {
                    countArray(o, toLookAt);
                } else {
                    countFields(o, toLookAt);
                }
            }
        }
    }

    private void countArray(Object array, Deque<Object> toLookAt) {
        elements += Array.getLength(array);
        for (int i = 0; i < Array.getLength(array) && !array.getClass().getComponentType().isPrimitive(); i++) {
            lookAt(Array.get(array, i), "an array's element " + i, toLookAt);
        }
    }

    private void countFields(Object o, Deque<Object> toLookAt) throws IllegalAccessException {
        for (Field f : o.getClass().getDeclaredFields()) {
            if (!Modifier.isStatic(f.getModifiers())) {
                elements++;
                f.setAccessible(true);
                if (!f.getType().isPrimitive()) {
                    lookAt(f.get(o), f.getName(), toLookAt);
                }
            }
        }
    }

    private static void lookAt(Object o, String name, Deque<Object> toLookAt) {
        due.holds(name + " is not null", o != null);
        if (o != null) {
            toLookAt.add(o);
        }
    }
}
