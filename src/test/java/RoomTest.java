import java.lang.reflect.Array;
import java.lang.reflect.Field;
import java.lang.reflect.Modifier;
import java.util.ArrayDeque;
import java.util.Collections;
import java.util.Deque;
import java.util.IdentityHashMap;
import java.util.Random;
import java.util.Set;

/** All calls of a run live in one room: how much of it an object takes when new, and that no call takes more. */
public final class RoomTest {
    private static final Due due = new Due("RoomTest");
    private static final int MOST_OBJECTS = 300, MOST_ELEMENTS = 12000, CALLS = 512, RUNS = 20;

    private RoomTest() {
    }

    public static void main(String[] args) throws ReflectiveOperationException {
        Room atFirst = new Room(new DoorCalls());
        due.is(atFirst.objects + " objects are few", atFirst.objects <= MOST_OBJECTS ? 1 : 0, 1);
        due.is(atFirst.elements + " elements are few", atFirst.elements <= MOST_ELEMENTS ? 1 : 0, 1);
        for (int seed = 0; seed < RUNS; seed++) {
            Room atLast = new Room(usedUp(seed));
            due.is("objects behind run " + seed, atLast.objects, atFirst.objects);
            due.is("elements behind run " + seed, atLast.elements, atFirst.elements);
        }
        due.end();
    }

    /** An object that has had all its calls, the dearest ones often. */
    private static DoorCalls usedUp(int seed) {
        DoorCalls x = Make.withShape("aB bS+1=300 cR dC3-4=1");
        Random random = new Random(seed);
        for (int k = 0; k < CALLS; k++) {
            int a = random.nextInt(6);
            int b = random.nextInt(6);
            switch (random.nextInt(8)) {
                case 0: x.call(a, b, random.nextInt(3), 1 + random.nextInt(9), 1 + random.nextInt(99), 5); break;
                case 1: x.breaks(a, b, x.count(0), x.count(0) + random.nextInt(9)); break;
                case 2: x.ping(a, b); break;
                case 3: x.run(random.nextInt(20)); break;
                case 4: x.credit(random.nextInt(30), 9); break;
                case 5: x.piece(random.nextInt(30)); break;
                case 6: x.door(a, b, 0); x.version(a, random.nextInt(10), b); x.order(); break;
                default: x.row(a, 60); x.read(0, b, a, b); x.write(0, a, b, 0); x.digest(); break;
            }
        }
        return x;
    }

    /** The objects that can be come to from one, and their fields and elements. */
    private static final class Room {
        int objects = 0;
        int elements = 0;
        private final Deque<Object> left = new ArrayDeque<>();
        private final Set<Object> seen = Collections.newSetFromMap(new IdentityHashMap<>());

        Room(Object first) throws ReflectiveOperationException {
            meet(first);
            while (!left.isEmpty()) {
                Object one = left.pop();
                objects++;
                if (one.getClass().isArray()) {
                    countArray(one);
                } else {
                    countFields(one);
                }
            }
        }

        private void meet(Object one) {
            if (one != null && seen.add(one)) {
                left.push(one);
            }
        }

        private void countArray(Object array) {
            elements += Array.getLength(array);
            for (int k = 0; k < Array.getLength(array) && !array.getClass().getComponentType().isPrimitive(); k++) {
                meet(Array.get(array, k));
            }
        }

        private void countFields(Object one) throws ReflectiveOperationException {
            for (Field field : one.getClass().getDeclaredFields()) {
                if (!Modifier.isStatic(field.getModifiers())) {
                    elements++;
                    field.setAccessible(true);
                    if (!field.getType().isPrimitive()) {
                        meet(field.get(one));
                    }
                }
            }
        }
    }
}
