import java.io.IOException;
import java.lang.reflect.Method;
import java.lang.reflect.Modifier;
import java.nio.file.Files;
import java.nio.file.Path;
import java.util.ArrayList;
import java.util.Comparator;
import java.util.List;
import java.util.TreeSet;
import java.util.regex.Matcher;
import java.util.regex.Pattern;
import java.util.stream.Stream;

/** Does what README.md says, in a copy of the project: what it says must be so. */
public final class ReadmeTest {
    private static final String ALL_TESTS = ".ci/run";

    public static void main(String[] args) {
        Run.all(ReadmeTest.class);
    }

    static void itsProgramPrintsWhatItSays(Run run) throws Exception {
        String program = blocks("java").get(0);
        Path project = copyOfTheProject();
        Files.writeString(project.resolve(firstMatch(program, "public final class (\\w+)") + ".java"), program);
        String printed = shell(run, project, blocks("sh").get(0));
        run.due("what README.md's program prints", printed.trim(), String.join("\n", answersIn(program)));
        run.due("whether it has some calls", "" + (answersIn(program).size() >= 10), "true");
        delete(project);
    }

    static void oneTestIsRunAsItSays(Run run) throws Exception {
        Path project = copyOfTheProject();
        run.due("whether a test by itself tells what it checked", ""
            + shell(run, project, blocks("sh").get(2)).contains(", 0 wrong"), "true");
        delete(project);
    }

    static void allTestsAreRunAsItSays(Run run) throws Exception {
        run.due("how all tests are run", blocks("sh").get(1).trim(), ALL_TESTS);
        run.due("whether that can be run", "" + Files.isExecutable(Path.of(ALL_TESTS)), "true");
    }

    /** Its program makes each call of the face, so that none is without an example. */
    static void itsProgramMakesEachCall(Run run) throws Exception {
        String program = blocks("java").get(0);
        for (Method method : VeilSearch.class.getDeclaredMethods()) {
            if (Modifier.isPublic(method.getModifiers())) {
                run.due("whether README.md's program calls " + method.getName(), "" + program.contains("s." + method.getName()
                    + "("), "true");
            }
        }
    }

    static void itNamesEachFileOfTheTests(Run run) throws Exception {
        TreeSet<String> named = new TreeSet<>();
        Matcher names = Pattern.compile("`([A-Z]\\w*Test|Run|Calls|PlainModel)`").matcher(Files.readString(Path.of("README.md")));
        while (names.find()) {
            named.add(names.group(1));
        }
        for (int promise = 1; promise <= 18; promise++) {
            named.add(String.format("Promise%02dTest", promise));
        }
        TreeSet<String> there = new TreeSet<>();
        try (Stream<Path> files = Files.list(Path.of("src/test/java"))) {
            files.forEach(file -> there.add(file.getFileName().toString().replace(".java", "")));
        }
        run.due("the tests that README.md names", named.toString(), there.toString());
    }

    /** What stands between a line that tells the language, and the next fence. */
    private static List<String> blocks(String language) throws IOException {
        List<String> blocks = new ArrayList<>();
        Matcher fences = Pattern.compile("(?ms)^```" + language + "\\n(.*?)^```$").matcher(Files.readString(Path.of("README.md")));
        while (fences.find()) {
            blocks.add(fences.group(1));
        }
        return blocks;
    }

    /** Behind each println with a comment: the comment up to its colon. */
    private static List<String> answersIn(String program) {
        List<String> answers = new ArrayList<>();
        Matcher comments = Pattern.compile("(?m)println.*// ([^:\\n]+)").matcher(program);
        while (comments.find()) {
            answers.add(comments.group(1));
        }
        return answers;
    }

    private static String firstMatch(String text, String pattern) {
        Matcher matcher = Pattern.compile(pattern).matcher(text);
        return matcher.find() ? matcher.group(1) : "";
    }

    private static String shell(Run run, Path directory, String commands) throws Exception {
        Process process = new ProcessBuilder("sh", "-e", "-c", commands).directory(directory.toFile()).redirectErrorStream(true).start();
        String printed = new String(process.getInputStream().readAllBytes());
        run.due("the exit code of " + commands, "" + process.waitFor(), "0");
        return printed;
    }

    private static Path copyOfTheProject() throws IOException {
        Path copy = Files.createTempDirectory("readme");
        try (Stream<Path> files = Files.walk(Path.of("src"))) {
            for (Path file : files.toList()) {
                Files.copy(file, copy.resolve(file.toString()));
            }
        }
        return copy;
    }

    private static void delete(Path directory) throws IOException {
        try (Stream<Path> files = Files.walk(directory)) {
            for (Path file : files.sorted(Comparator.reverseOrder()).toList()) {
                Files.delete(file);
            }
        }
    }
}
