import com.sun.management.ThreadMXBean;
import java.lang.management.ManagementFactory;
import java.lang.reflect.Array;
import java.lang.reflect.Field;
import java.lang.reflect.Modifier;
import java.util.IdentityHashMap;

/** All calls of a run live in one room: an object holds little, and its calls make nothing. */
public final class RoomTest {
    private static final int MOST_OBJECTS = 100;
    private static final int MOST_ELEMENTS = 5000;
    private static final int CALLS = 512;

    public static void main(String[] args) {
        Run.all(RoomTest.class);
    }

    static void aNewObjectHoldsLittle(Run run) throws Exception {
        holdsLittle(run, new VeilSearch());
    }

    static void anObjectHoldsNoMoreBehindItsLastCall(Run run) throws Exception {
        VeilSearch search = new VeilSearch();
        int before = elementsOf(search, new IdentityHashMap<>());
        makeCalls(search);
        holdsLittle(run, search);
        run.due("the fields and elements behind 512 calls", "" + elementsOf(search, new IdentityHashMap<>()), "" + before);
    }

    /** The first round makes the machine load what it needs; the second shows what the calls themselves make. */
    static void callsMakeNothing(Run run) {
        ThreadMXBean threads = (ThreadMXBean) ManagementFactory.getThreadMXBean();
        long made = 0;
        for (int round = 0; round < 2; round++) {
            VeilSearch search = new VeilSearch();
            long before = threads.getCurrentThreadAllocatedBytes();
            makeCalls(search);
            made = threads.getCurrentThreadAllocatedBytes() - before;
        }
        run.due("whether 512 calls make next to nothing (" + made + " bytes)", "" + (made < CALLS), "true");
    }

    /**
     * Each call of the face, none of which throws: 40 documents in segments that are merged, searched by all users with up to six clauses.
     */
    private static void makeCalls(VeilSearch search) {
        for (int id = 0; id < 40; id++) {
            search.rule(id % 8, true);
            search.weigh(0, id % 6, 1 + id);
            search.put(1, id);
            search.add(-1);
            if (id % 8 == 7) {
                search.flush();
            }
        }
        search.remove(39);
        search.merge();
        int calls = 40 * 4 + 5 + 2;
        for (int round = 0; calls + 11 <= CALLS; round++) {
            search.member(round % 8, 8 + round % 7, true);
            search.level(0, 1, round % 4);
            search.refresh();
            if (search.clause(0, 5 - round % 6, 0, 1.5) == 6) {
                search.clear();
            }
            calls += 5 + searchAs(search, round % 8, 1 + round % 8);
        }
    }

    /** How many calls were made. */
    private static int searchAs(VeilSearch search, int user, int most) {
        search.count(20 + user);
        if (search.search(user, most) == 0) {
            return 2;
        }
        search.score(0);
        search.value(user, search.hit(0), 0);
        return 5;
    }

    private static void holdsLittle(Run run, VeilSearch search) throws Exception {
        IdentityHashMap<Object, Boolean> objects = new IdentityHashMap<>();
        int elements = elementsOf(search, objects);
        run.due("whether " + objects.size() + " objects and arrays are few", "" + (objects.size() <= MOST_OBJECTS), "true");
        run.due("whether " + elements + " fields and elements are few", "" + (elements <= MOST_ELEMENTS), "true");
    }

    /** The fields and elements of an object and of all that it holds; objects gathers these. */
    private static int elementsOf(Object object, IdentityHashMap<Object, Boolean> objects) throws Exception {
        if (object == null || objects.put(object, true) != null) {
            return 0;
        }
        if (object.getClass().isArray()) {
            return Array.getLength(object);
        }
        int elements = 0;
        for (Field field : object.getClass().getDeclaredFields()) {
            if (!Modifier.isStatic(field.getModifiers())) {
                elements++;
                field.setAccessible(true);
                elements += field.getType().isPrimitive() ? 0 : elementsOf(field.get(object), objects);
            }
        }
        return elements;
    }
}
