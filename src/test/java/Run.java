import java.lang.reflect.InvocationTargetException;
import java.lang.reflect.Method;
import java.util.Arrays;

/**
 * Runs of calls that are written as text, a call and its answer a line: "weigh(0, 1, 2.5) 40", "remove(9) throws.NoSuchElementException".
 */
final class Run {
    static final String NOTHING = "-";
    private static final int MOST_CALLS = 512;
    private String test = "";
    private int tests = 0;
    private int rows = 0;
    private int wrong = 0;

    /** Runs each static method of a class that takes a Run, so that none is forgotten; it is named in what is printed. */
    static void all(Class<?> tests) {
        Run run = new Run();
        for (Method method : tests.getDeclaredMethods()) {
            if (Arrays.equals(method.getParameterTypes(), new Class<?>[] {Run.class})) {
                run.one(tests.getSimpleName() + "." + method.getName(), method);
            }
        }
        System.out.print(run.tests + " tests, ");
        run.end();
    }

    private void one(String name, Method method) {
        test = name;
        tests++;
        int before = rows;
        try {
            method.invoke(null, this);
        } catch (ReflectiveOperationException e) {
            throw new AssertionError(name, e);
        }
        due("whether " + name + " checks something", "" + (rows > before), "true");
    }

    void check(String calls) {
        check(test, calls);
    }

    /** Makes the calls on a new object; each answer must be the one behind its call ("-" for a call without one). */
    void check(String title, String calls) {
        VeilSearch search = new VeilSearch();
        int row = 0;
        for (String line : calls.split("\n")) {
            if (line.isBlank()) {
                continue;
            }
            row++;
            int end = line.indexOf(')') + 1;
            String call = line.substring(0, end).trim();
            String got = answer(search, call);
            due(title + ", row " + row + ": " + call, got, line.substring(end).trim());
        }
        due("whether " + title + " has no more calls than are promised", "" + (row <= MOST_CALLS), "true");
    }

    void due(String what, String got, String want) {
        rows++;
        if (!got.equals(want)) {
            wrong++;
            System.out.println(what + " answered " + got + ", due is " + want);
        }
    }

    void end() {
        System.out.println(rows + " answers, " + wrong + " wrong");
        System.exit(wrong == 0 && rows > 0 ? 0 : 1);
    }

    static String answer(Object target, String call) {
        int open = call.indexOf('(');
        String[] written = call.substring(open + 1, call.length() - 1).split(",");
        Method method = methodOf(target, call.substring(0, open));
        Class<?>[] types = method.getParameterTypes();
        Object[] arguments = new Object[types.length];
        for (int i = 0; i < types.length; i++) {
            arguments[i] = read(written[i].trim(), types[i]);
        }
        try {
            Object answer = method.invoke(target, arguments);
            return answer == null ? NOTHING : answer.toString();
        } catch (InvocationTargetException e) {
            return "throws." + e.getCause().getClass().getSimpleName();
        } catch (IllegalAccessException e) {
            throw new AssertionError(e);
        }
    }

    private static Method methodOf(Object target, String name) {
        for (Method method : target.getClass().getDeclaredMethods()) {
            if (method.getName().equals(name)) {
                return method;
            }
        }
        throw new AssertionError("no method " + name);
    }

    private static Object read(String written, Class<?> type) {
        if (type == boolean.class) {
            if (!written.equals("true") && !written.equals("false")) {
                throw new AssertionError("no boolean: " + written);
            }
            return written.equals("true");
        }
        if (type == double.class) {
            return Double.valueOf(written);
        }
        return Integer.valueOf(written);
    }
}
