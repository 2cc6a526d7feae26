import java.lang.reflect.Constructor;
import java.lang.reflect.Field;
import java.lang.reflect.InvocationTargetException;
import java.lang.reflect.Method;
import java.lang.reflect.Modifier;
import java.util.ArrayList;
import java.util.Arrays;
import java.util.List;
import java.util.TreeSet;

/** The public face is the document's, and what can be seen of LANGUAGE.md's rules 1, 5 and 11 in the compiled class holds. */
public final class FaceTest {
    private static final String[] FACE = {
        "public boolean member(int, int, boolean) IllegalArgumentException",
        "public int level(int, int, int) IllegalArgumentException",
        "public int weigh(int, int, double) IllegalArgumentException",
        "public int put(int, int) IllegalArgumentException",
        "public boolean rule(int, boolean) IllegalArgumentException",
        "public int add(int) IllegalArgumentException IllegalStateException",
        "public void remove(int) NoSuchElementException",
        "public int flush() IllegalStateException",
        "public int merge()",
        "public int refresh()",
        "public int clause(int, int, int, double) IllegalArgumentException IllegalStateException",
        "public int clear()",
        "public int search(int, int) IllegalArgumentException",
        "public int hit(int) IndexOutOfBoundsException",
        "public double score(int) IndexOutOfBoundsException",
        "public int value(int, int, int) IllegalArgumentException NoSuchElementException UnsupportedOperationException",
        "public int count(int) IllegalArgumentException",
    };

    /** So many calls are made on an object before the next one is taken. */
    private static final int FRESH = 200;
    private static final int[] INTS = {Integer.MIN_VALUE, -64, -1, 0, 1, 2, 3, 7, 8, 15, 16, 32, 39, 40, 64, Integer.MAX_VALUE};
    private static final double[] DOUBLES = {Double.NaN, Double.NEGATIVE_INFINITY, -1, -0.0, 0, Double.MIN_VALUE, 1e-30, 1, 1000, 1001, Double.MAX_VALUE};
    private static final String SOME = Calls.documents(0, 3) + "flush() 3\nmember(0, 8, true) true\nlevel(0, 1, 2) 0\nrefresh() 3\n"
        + "clause(0, 0, 0, 1.0) 1\nsearch(0, 2) 2\n";
    private static final String FULL = Calls.segments(0, 6) + Calls.each(6, 40, "add(-1) #") + Calls.each(1, 7, "clause(0, 0, 0, 1.0) #")
        + "refresh() 6\nsearch(0, 8) 6\n";

    public static void main(String[] args) {
        Run.all(FaceTest.class);
    }

    static void face(Run run) {
        TreeSet<String> seen = new TreeSet<>();
        for (Method method : VeilSearch.class.getDeclaredMethods()) {
            if (!Modifier.isPrivate(method.getModifiers())) {
                seen.add(written(method));
            }
        }
        run.due("the methods that are not private", seen.toString(), new TreeSet<>(Arrays.asList(FACE)).toString());
        run.due("the class", Modifier.toString(VeilSearch.class.getModifiers()), "public final");
        Constructor<?>[] constructors = VeilSearch.class.getDeclaredConstructors();
        run.due("the constructors", Arrays.toString(constructors), "[public VeilSearch()]");
    }

    private static String written(Method method) {
        List<String> types = new ArrayList<>();
        for (Class<?> type : method.getParameterTypes()) {
            types.add(type.getSimpleName());
        }
        StringBuilder text = new StringBuilder(Modifier.toString(method.getModifiers()));
        text.append(' ').append(method.getReturnType()).append(' ').append(method.getName()).append('(').append(String.join(", ", types)).append(')');
        for (Class<?> type : method.getExceptionTypes()) {
            text.append(' ').append(type.getSimpleName());
        }
        return text.toString();
    }

    /**
     * A call throws what the face names for it, and nothing else, for any arguments: on an object that is new, one that has something, and
     * a full one.
     */
    static void nothingElseReachesTheCaller(Run run) throws Exception {
        for (String state : new String[] {"", SOME, FULL}) {
            for (Method method : VeilSearch.class.getMethods()) {
                if (method.getDeclaringClass() == VeilSearch.class) {
                    run.due("what " + method.getName() + " throws", thrownElse(method, state).toString(), "[]");
                }
            }
        }
    }

    private static TreeSet<String> thrownElse(Method method, String state) throws Exception {
        TreeSet<String> others = new TreeSet<>();
        VeilSearch search = null;
        for (int row = 0; row < rowsFor(method); row++) {
            if (row % FRESH == 0) {
                search = made(state);
            }
            try {
                method.invoke(search, argumentsOf(method, row));
            } catch (InvocationTargetException e) {
                if (!Arrays.asList(method.getExceptionTypes()).contains(e.getCause().getClass())) {
                    others.add(e.getCause().toString());
                }
            }
        }
        return others;
    }

    private static VeilSearch made(String state) {
        VeilSearch search = new VeilSearch();
        for (String row : state.split("\n")) {
            if (!row.isBlank()) {
                Run.answer(search, row.substring(0, row.indexOf(')') + 1));
            }
        }
        return search;
    }

    private static int rowsFor(Method method) {
        int rows = 1;
        for (Class<?> type : method.getParameterTypes()) {
            rows *= choicesOf(type);
        }
        return rows;
    }

    private static int choicesOf(Class<?> type) {
        return type == int.class ? INTS.length : type == double.class ? DOUBLES.length : 2;
    }

    /** Each row stands for one choice of all arguments. */
    private static Object[] argumentsOf(Method method, int row) {
        Class<?>[] types = method.getParameterTypes();
        Object[] arguments = new Object[types.length];
        int rest = row;
        for (int i = 0; i < types.length; i++) {
            int choice = rest % choicesOf(types[i]);
            rest /= choicesOf(types[i]);
            if (types[i] == int.class) {
                arguments[i] = INTS[choice];
            } else if (types[i] == double.class) {
                arguments[i] = DOUBLES[choice];
            } else {
                arguments[i] = choice == 1;
            }
        }
        return arguments;
    }

    static void names(Run run) {
        TreeSet<String> face = new TreeSet<>();
        for (Method method : VeilSearch.class.getMethods()) {
            face.add(method.getName());
        }
        for (Class<?> inside : allClasses()) {
            for (Method method : inside.getDeclaredMethods()) {
                boolean ofFace = inside == VeilSearch.class && Modifier.isPublic(method.getModifiers());
                run.due("whether " + method + " bears a name of the face without being it", ""
                    + (!ofFace && face.contains(method.getName())), "false");
                run.due("whether " + method + " has at most seven parameters", "" + (method.getParameterCount() <= 7), "true");
            }
        }
        run.due("whether there are at most twelve classes", "" + (allClasses().size() <= 12), "true");
    }

    static void fields(Run run) {
        for (Class<?> inside : allClasses()) {
            int own = 0;
            for (Field field : inside.getDeclaredFields()) {
                boolean isStatic = Modifier.isStatic(field.getModifiers());
                own += isStatic ? 0 : 1;
                run.due("whether " + field + " is private", "" + Modifier.isPrivate(field.getModifiers()), "true");
                run.due("whether " + field + " is final or an object's", ""
                    + (!isStatic || Modifier.isFinal(field.getModifiers())), "true");
            }
            run.due("whether " + inside + " has at most twenty fields", "" + (own <= 20), "true");
            run.due("whether " + inside + " is static or the face", ""
                + (inside == VeilSearch.class || Modifier.isStatic(inside.getModifiers())), "true");
        }
    }

    private static List<Class<?>> allClasses() {
        List<Class<?>> all = new ArrayList<>();
        all.add(VeilSearch.class);
        all.addAll(Arrays.asList(VeilSearch.class.getDeclaredClasses()));
        return all;
    }
}
