import java.io.IOException;
import java.nio.file.Files;
import java.nio.file.Path;
import java.util.TreeSet;
import java.util.regex.Matcher;
import java.util.regex.Pattern;

/** What can be seen of LANGUAGE.md's rules in the text of the class; FaceTest looks at the compiled one. */
public final class LanguageTest {
    private static final Path MAIN = Path.of("src/main/java/VeilSearch.java");
    private static final int MOST_LINES = 60;

    public static void main(String[] args) {
        Run.all(LanguageTest.class);
    }

    /** One file, without a package line, and no library but the exception that the face names. */
    static void rule4TheLibrary(Run run) throws IOException {
        run.due("the imports", allOf("(?m)^import (.*);$").toString(), "[java.util.NoSuchElementException]");
        run.due("package lines", allOf("(?m)^(package .*)$").toString(), "[]");
        run.due("what is called of the library", allOf("\\b((?:Math|Long|Integer|System|Arrays|String|StringBuilder|List|ArrayList)\\.\\w+)").toString(),
            "[Long.bitCount, Math.max, Math.min, System.arraycopy]");
    }

    static void rules2And3And6WordsThatAreLeftOut(Run run) throws IOException {
        String[] words = {"->", "::", "finally", "synchronized", "assert ", "var ", "throw e", "getMessage", "static \\{", "hashCode", "equals\\(", "toString",
            "Object ", "strictfp", "volatile", "transient", "native ", "Thread", "Random", "nanoTime", "currentTimeMillis", "Float\\.", "Double\\."};
        for (String word : words) {
            run.due("where the class has " + word, allOf("(" + word + ")").toString(), "[]");
        }
    }

    static void rule6Exceptions(Run run) throws IOException {
        run.due("what is thrown", allOf("throw (.*);").toString(), "[new IllegalArgumentException(), new IllegalStateException(), new IndexOutOfBoundsException(), "
            + "new NoSuchElementException(), new UnsupportedOperationException()]");
    }

    static void rule5StaticFieldsAreConstants(Run run) throws IOException {
        run.due("what static fields are", allOf("(?m)^ +(\\w+ static (?:final )?\\w+) [A-Z_]+ = ").toString(), "[private static final int]");
    }

    /** All rows are made with an object: none is made by a method. */
    static void rule12WhereObjectsAreMade(Run run) throws IOException {
        run.due("what is made but for the constructor's objects, fields and exceptions", allOf("(?m)^ {8,}(?!private final |\\w+ = new \\w+\\(\\);)(.*\\bnew (?!\\w+Exception).*)$").toString(), "[]");
    }

    static void rule11MethodsAreShort(Run run) throws IOException {
        Matcher methods = Pattern.compile("(?ms)^( +)(?:\\w+ )*\\w+(?:\\[\\])? (\\w+)\\([^()\\n]*\\)[^;\\n]*\\{\\n"
            + "(.*?)^\\1\\}").matcher(text());
        int found = 0;
        while (methods.find()) {
            found++;
            long lines = methods.group(3).lines().count();
            run.due("whether " + methods.group(2) + " with " + lines + " lines is short", "" + (lines <= MOST_LINES), "true");
        }
        run.due("whether the methods were found", "" + (found >= 17), "true");
    }

    /** The text without comments, whose words are free. */
    private static String text() throws IOException {
        return Files.readString(MAIN).replaceAll("(?s)/\\*.*?\\*/", "").replaceAll("//[^\\n]*", "");
    }

    private static TreeSet<String> allOf(String pattern) throws IOException {
        TreeSet<String> all = new TreeSet<>();
        Matcher matcher = Pattern.compile(pattern).matcher(text());
        while (matcher.find()) {
            all.add(matcher.group(1));
        }
        return all;
    }
}
