import java.lang.management.ManagementFactory;
import java.lang.reflect.Array;
import java.lang.reflect.Field;
import java.lang.reflect.Modifier;
import java.util.Collections;
import java.util.IdentityHashMap;
import java.util.Set;

/** All calls of a run live in one room: what an object takes of it when it is made, and that no call takes more. */
public final class RoomTest extends Hands {
    /** The room has some 600,000 objects and arrays, 7.3 million fields and elements; a run may make many objects. */
    private static final int MOST_OBJECTS = 600;
    private static final int MOST_ELEMENTS = 14600;
    private static final int OBJECTS_USED = 400;
    /** Less than the smallest object, made once for each object that is used, would take. */
    private static final int BYTES = 16 * OBJECTS_USED / 2;

    private static int elements;
    private static int answers;

    private RoomTest() {
    }

    public static void main(String[] args) throws IllegalAccessException {
        DotWar x = new DotWar();
        dueRoom("a new object", x);
        Edges.makeFilled(x);
        use(x);
        dueRoom("a filled object that was used", x);
        callsTakeNoRoom();
        Due.end();
    }

    private static void dueRoom(String name, DotWar x) throws IllegalAccessException {
        elements = 0;
        Set<Object> objects = Collections.newSetFromMap(new IdentityHashMap<>());
        walk(x, objects);
        due(name + " is of " + objects.size() + " objects and arrays", objects.size() <= MOST_OBJECTS ? 1 : 0, 1);
        due(name + " has " + elements + " fields and elements", elements <= MOST_ELEMENTS ? 1 : 0, 1);
    }

    private static void walk(Object one, Set<Object> objects) throws IllegalAccessException {
        if (one == null || !objects.add(one)) {
            return;
        }
        if (one.getClass().isArray()) {
            boolean ofObjects = !one.getClass().getComponentType().isPrimitive();
            elements += Array.getLength(one);
            for (int i = 0; ofObjects && i < Array.getLength(one); i++) {
                walk(Array.get(one, i), objects);
            }
            return;
        }
        for (Field field : one.getClass().getDeclaredFields()) {
            if (!Modifier.isStatic(field.getModifiers())) {
                elements++;
                field.setAccessible(true);
                if (!field.getType().isPrimitive()) {
                    walk(field.get(one), objects);
                }
            }
        }
    }

    private static void callsTakeNoRoom() {
        if (!(ManagementFactory.getThreadMXBean() instanceof com.sun.management.ThreadMXBean bean)
                || !bean.isThreadAllocatedMemorySupported()) {
            return;
        }
        DotWar[] all = new DotWar[OBJECTS_USED];
        for (int i = 0; i < OBJECTS_USED; i++) {
            all[i] = new DotWar();
            Edges.makeOrdinary(all[i]);
        }
        use(all[0]);
        long before = bean.getThreadAllocatedBytes(Thread.currentThread().getId());
        for (int i = 1; i < OBJECTS_USED; i++) {
            use(all[i]);
        }
        long taken = bean.getThreadAllocatedBytes(Thread.currentThread().getId()) - before;
        due("calls took " + taken + " bytes", taken <= BYTES ? 1 : 0, 1);
        due("they were made", answers != 0 ? 1 : 0, 1);
    }

    /** Every call of the face, taken and refused, without an object of the test's own. */
    private static void use(DotWar x) {
        for (int n = -1; n <= 1; n++) {
            answers += x.letter(n, n + 1, n) + x.say(n) + x.dot(n) + x.write(3, n) + x.read(3, n) + x.ways(3, n);
            answers += x.write(0, n) + x.read(0, n) + x.ways(0, n) + x.count(n, 0, 7) + x.room(n, 3, 1) + x.chosen(n, 3, 12, 1);
            answers += x.reader(40, n, true) + x.know(n, 1, 3) + x.move(n, 2) + x.about(n, 3) + x.near(3, n) + x.pace(n, 3);
            answers += x.learn(n, 3) + x.shelf(n, 1, 1, 1) + x.reads(n) + x.school(n, 3) + x.fund(1000, n) + x.fault();
            answers += x.board(n) + x.sign(n * 90) + x.voters(n) + x.choice(n, true) + x.choice(n, false) + x.part(n + 4, n);
            answers += x.mix(n) + x.anew(3333333) + x.best() + x.told(n + 5) + x.abbreviate(n) + x.row() + x.word() + x.wipe(n);
        }
    }
}
