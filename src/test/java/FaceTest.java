import java.lang.reflect.Constructor;
import java.lang.reflect.Field;
import java.lang.reflect.Method;
import java.lang.reflect.Modifier;
import java.util.ArrayList;
import java.util.Arrays;
import java.util.List;
import java.util.TreeSet;

/** The public face is the document's, and what can be seen of LANGUAGE.md's rules 1, 5 and 11 in the compiled class holds. */
public final class FaceTest {
    private static final String[] FACE = {
        "public boolean member(int, int, boolean) IllegalArgumentException",
        "public int level(int, int, int) IllegalArgumentException",
        "public int weigh(int, int, double) IllegalArgumentException",
        "public int put(int, int) IllegalArgumentException",
        "public boolean rule(int, boolean) IllegalArgumentException",
        "public int add(int) IllegalArgumentException IllegalStateException",
        "public void remove(int) NoSuchElementException",
        "public int flush() IllegalStateException",
        "public int merge()",
        "public int refresh()",
        "public int clause(int, int, int, double) IllegalArgumentException IllegalStateException",
        "public int clear()",
        "public int search(int, int) IllegalArgumentException",
        "public int hit(int) IndexOutOfBoundsException",
        "public double score(int) IndexOutOfBoundsException",
        "public int value(int, int, int) IllegalArgumentException NoSuchElementException UnsupportedOperationException",
        "public int count(int) IllegalArgumentException",
    };

    public static void main(String[] args) {
        Run run = new Run();
        face(run);
        names(run);
        fields(run);
        run.end();
    }

    private static void face(Run run) {
        TreeSet<String> seen = new TreeSet<>();
        for (Method method : VeilSearch.class.getDeclaredMethods()) {
            if (!Modifier.isPrivate(method.getModifiers())) {
                seen.add(written(method));
            }
        }
        run.due("the methods that are not private", seen.toString(), new TreeSet<>(Arrays.asList(FACE)).toString());
        run.due("the class", Modifier.toString(VeilSearch.class.getModifiers()), "public final");
        Constructor<?>[] constructors = VeilSearch.class.getDeclaredConstructors();
        run.due("the constructors", Arrays.toString(constructors), "[public VeilSearch()]");
    }

    private static String written(Method method) {
        List<String> types = new ArrayList<>();
        for (Class<?> type : method.getParameterTypes()) {
            types.add(type.getSimpleName());
        }
        StringBuilder text = new StringBuilder(Modifier.toString(method.getModifiers()));
        text.append(' ').append(method.getReturnType()).append(' ').append(method.getName()).append('(').append(String.join(", ", types)).append(')');
        for (Class<?> type : method.getExceptionTypes()) {
            text.append(' ').append(type.getSimpleName());
        }
        return text.toString();
    }

    private static void names(Run run) {
        TreeSet<String> face = new TreeSet<>();
        for (Method method : VeilSearch.class.getMethods()) {
            face.add(method.getName());
        }
        for (Class<?> inside : allClasses()) {
            for (Method method : inside.getDeclaredMethods()) {
                boolean ofFace = inside == VeilSearch.class && Modifier.isPublic(method.getModifiers());
                run.due("whether " + method + " bears a name of the face without being it", "" + (!ofFace && face.contains(method.getName())), "false");
                run.due("whether " + method + " has at most seven parameters", "" + (method.getParameterCount() <= 7), "true");
            }
        }
        run.due("whether there are at most twelve classes", "" + (allClasses().size() <= 12), "true");
    }

    private static void fields(Run run) {
        for (Class<?> inside : allClasses()) {
            int own = 0;
            for (Field field : inside.getDeclaredFields()) {
                boolean isStatic = Modifier.isStatic(field.getModifiers());
                own += isStatic ? 0 : 1;
                run.due("whether " + field + " is private", "" + Modifier.isPrivate(field.getModifiers()), "true");
                run.due("whether " + field + " is final or an object's", "" + (!isStatic || Modifier.isFinal(field.getModifiers())), "true");
            }
            run.due("whether " + inside + " has at most twenty fields", "" + (own <= 20), "true");
            run.due("whether " + inside + " is static or the face", "" + (inside == VeilSearch.class || Modifier.isStatic(inside.getModifiers())), "true");
        }
    }

    private static List<Class<?>> allClasses() {
        List<Class<?>> all = new ArrayList<>();
        all.add(VeilSearch.class);
        all.addAll(Arrays.asList(VeilSearch.class.getDeclaredClasses()));
        return all;
    }
}
