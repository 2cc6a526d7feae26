import com.sun.management.ThreadMXBean;
import java.lang.management.ManagementFactory;
import java.lang.reflect.Array;
import java.lang.reflect.Field;
import java.lang.reflect.Modifier;
import java.util.IdentityHashMap;

/** All calls of a run live in one room: an object holds little, and its calls make nothing. */
public final class RoomTest {
    private static final int MOST_OBJECTS = 100;
    private static final int MOST_ELEMENTS = 5000;
    private static final int CALLS = 512;

    public static void main(String[] args) {
        Run.all(RoomTest.class);
    }

    static void aNewObjectHoldsLittle(Run run) throws Exception {
        holdsLittle(run, new VeilSearch());
    }

    static void anObjectHoldsNoMoreBehindItsLastCall(Run run) throws Exception {
        VeilSearch search = new VeilSearch();
        int before = elementsOf(search, new IdentityHashMap<>());
        makeCalls(search);
        holdsLittle(run, search);
        run.due("the fields and elements behind 512 calls", "" + elementsOf(search, new IdentityHashMap<>()), "" + before);
    }

    /** The first round makes the machine load what it needs; the second shows what the calls themselves make. */
    static void callsMakeNothing(Run run) {
        ThreadMXBean threads = (ThreadMXBean) ManagementFactory.getThreadMXBean();
        long made = 0;
        for (int round = 0; round < 2; round++) {
            VeilSearch search = new VeilSearch();
            long before = threads.getCurrentThreadAllocatedBytes();
            makeCalls(search);
            made = threads.getCurrentThreadAllocatedBytes() - before;
        }
        run.due("whether 512 calls make next to nothing (" + made + " bytes)", "" + (made < CALLS), "true");
    }

    /** As many calls as are promised, none of which throws: 40 documents in segments that are merged, searched by all users with six clauses. */
    private static void makeCalls(VeilSearch search) {
        for (int term = 0; term < 6; term++) {
            search.clause(0, 5 - term, 0, 1.5);
        }
        for (int id = 0; id < 40; id++) {
            search.rule(id % 8, true);
            search.weigh(0, id % 6, id);
            search.put(1, id);
            search.add(id - 1);
            if (id % 8 == 7) {
                search.flush();
            }
        }
        int calls = 6 + 40 * 4 + 5;
        search.remove(39);
        search.merge();
        search.level(0, 1, 0);
        calls += 3;
        for (; calls + 4 <= CALLS; calls += 4) {
            search.member(calls / 4 % 8, 8 + calls % 8, true);
            search.refresh();
            search.search(calls / 4 % 8, 1 + calls % 8);
            search.count(10 + calls % 8);
        }
    }

    private static void holdsLittle(Run run, VeilSearch search) throws Exception {
        IdentityHashMap<Object, Boolean> objects = new IdentityHashMap<>();
        int elements = elementsOf(search, objects);
        run.due("whether " + objects.size() + " objects and arrays are few", "" + (objects.size() <= MOST_OBJECTS), "true");
        run.due("whether " + elements + " fields and elements are few", "" + (elements <= MOST_ELEMENTS), "true");
    }

    /** The fields and elements of an object and of all that it holds; objects gathers these. */
    private static int elementsOf(Object object, IdentityHashMap<Object, Boolean> objects) throws Exception {
        if (object == null || objects.put(object, true) != null) {
            return 0;
        }
        if (object.getClass().isArray()) {
            return Array.getLength(object);
        }
        int elements = 0;
        for (Field field : object.getClass().getDeclaredFields()) {
            if (!Modifier.isStatic(field.getModifiers())) {
                elements++;
                field.setAccessible(true);
                elements += field.getType().isPrimitive() ? 0 : elementsOf(field.get(object), objects);
            }
        }
        return elements;
    }
}
