import java.io.IOException;
import java.nio.file.Files;
import java.nio.file.Path;
import java.nio.file.StandardCopyOption;
import java.util.ArrayList;
import java.util.Comparator;
import java.util.List;
import java.util.concurrent.TimeUnit;
import java.util.regex.Matcher;
import java.util.regex.Pattern;
import java.util.stream.Stream;

/** The command that README.md names for the tests, run on small projects of its own whose tests pass or fail. */
public final class RunnerTest {
    private static final String RUNNER = ".ci/run";
    private static final String CLASS = "main/src/main/java/TilesGoAbout.java";
    private static final String OWN = "main/src/test/java/";
    private static final String SHARED = "shared/tests/";
    private static final String NO_JAVA = "no Java";
    private static final Checks CHECKS = new Checks();

    private static Path scratch;
    private static String command;
    private static final List<String> names = new ArrayList<>();
    private static final List<Boolean> dues = new ArrayList<>();
    private static final List<Process> runs = new ArrayList<>();

    public static void main(String[] args) throws IOException, InterruptedException {
        scratch = Files.createTempDirectory("runner");
        try {
            command = commandOf(Files.readString(Path.of("README.md")));
            startAll();
            lookAtAll();
        } finally {
            for (Process run : runs) {
                run.destroyForcibly().waitFor();
            }
            delete(scratch);
        }
        CHECKS.end();
    }

    private static String commandOf(String readme) {
        CHECKS.about("README.md");
        Matcher line = Pattern.compile("## Tests\n\n    (.*)\n").matcher(readme);
        boolean found = line.find();
        CHECKS.holds("it names no way to run the tests", found);
        CHECKS.holds(RUNNER + " can't be executed", Files.isExecutable(Path.of(RUNNER)));
        return found ? line.group(1) : "exit 9";
    }

    private static void startAll() throws IOException {
        start("all pass", true, "", "");
        start("the class does not compile", false, CLASS, NO_JAVA);
        start("one of its own tests fails, ahead of one that passes", false, OWN + "ATest.java", test("ATest", 1));
        start("one of its own tests fails, behind one that passes", false, OWN + "ZTest.java", test("ZTest", 1));
        start("one of its own tests does not compile", false, OWN + "ZTest.java", NO_JAVA);
        start("one of its own tests throws", false, OWN + "ATest.java",
            "public final class ATest { public static void main(String[] args) { throw new IllegalStateException(); } }");
        start("a shared test fails, ahead of one that passes", false, SHARED + "ARuns.java", test("ARuns", 1));
        start("a shared test fails, behind one that passes", false, SHARED + "ZRuns.java", test("ZRuns", 1));
        start("a shared test does not compile", false, SHARED + "ZRuns.java", NO_JAVA);
        start("there is no shared test", false, SHARED + "MRuns.java", "");
        start("there is no test of its own", false, OWN + "MTest.java", "");
    }

    /** A project with a test of its own and a shared one, but for one file that is otherwise (without text: not there). */
    private static void start(String name, boolean passes, String file, String text) throws IOException {
        Path project = Files.createDirectory(scratch.resolve("project" + runs.size()));
        write(project.resolve(CLASS), "public final class TilesGoAbout { }");
        write(project.resolve(OWN + "MTest.java"), test("MTest", 0));
        write(project.resolve(SHARED + "MRuns.java"), test("MRuns", 0));
        if (!file.isEmpty()) {
            Files.deleteIfExists(project.resolve(file));
        }
        if (!text.isEmpty()) {
            write(project.resolve(file), text);
        }
        Path runner = project.resolve("main").resolve(RUNNER);
        Files.createDirectories(runner.getParent());
        Files.copy(Path.of(RUNNER), runner, StandardCopyOption.COPY_ATTRIBUTES);
        names.add(name);
        dues.add(passes);
        runs.add(new ProcessBuilder("sh", "-c", command).directory(project.resolve("main").toFile())
            .redirectErrorStream(true).redirectOutput(project.resolve("told").toFile()).start());
    }

    private static String test(String name, int exitCode) {
        return "public final class " + name + " { public static void main(String[] args) {"
            + " new TilesGoAbout(); System.exit(" + exitCode + "); } }";
    }

    private static void lookAtAll() throws IOException, InterruptedException {
        for (int i = 0; i < runs.size(); i++) {
            CHECKS.about(command + ", " + names.get(i));
            boolean ended = runs.get(i).waitFor(5, TimeUnit.MINUTES);
            CHECKS.holds("did not end", ended);
            if (!ended) {
                continue;
            }
            int code = runs.get(i).exitValue();
            boolean asDue = code == 0 == dues.get(i);
            CHECKS.holds("ended with exit code " + code, asDue);
            if (!asDue) {
                System.out.println(Files.readString(scratch.resolve("project" + i).resolve("told")));
            }
        }
    }

    private static void write(Path file, String text) throws IOException {
        Files.createDirectories(file.getParent());
        Files.writeString(file, text);
    }

    private static void delete(Path folder) throws IOException {
        List<Path> all;
        try (Stream<Path> walk = Files.walk(folder)) {
            all = walk.sorted(Comparator.reverseOrder()).toList();
        }
        for (Path path : all) {
            Files.delete(path);
        }
    }
}
