import java.io.IOException;
import java.lang.reflect.Method;
import java.lang.reflect.Modifier;
import java.nio.file.Files;
import java.nio.file.Path;
import java.util.ArrayList;
import java.util.List;
import java.util.Set;
import java.util.TreeSet;
import java.util.regex.Matcher;
import java.util.regex.Pattern;
import java.util.stream.Stream;

/** What README.md tells: its calls are run as they stand there, so that its words and the test can't drift apart. */
public final class ReadmeTest {
    private static final Path README = Path.of("README.md");
    private static final Path TESTS = Path.of("src/test/java");
    private static final Path SOURCE = Path.of("src/main/java/TilesGoAbout.java");
    /** A call whose answer is told: what keeps it, the call, the answer. */
    private static final Pattern TOLD = Pattern.compile("(int \\w+ = )?(.*);\\s+// (-?\\d+): .*");
    private static final Checks CHECKS = new Checks();

    public static void main(String[] args) throws IOException, InterruptedException {
        String readme = Files.readString(README);
        callsAnswerAsTold(blocksOf(readme));
        everyCallIsNamed(readme);
        kindsAreAsTold(readme);
        everyTestIsNamed(readme);
        CHECKS.end();
    }

    /** The lines of all Java blocks, in order: they are one program. */
    private static List<String> blocksOf(String readme) {
        List<String> lines = new ArrayList<>();
        Matcher block = Pattern.compile("(?s)```java\n(.*?)```\n").matcher(readme);
        while (block.find()) {
            lines.addAll(List.of(block.group(1).split("\n")));
        }
        return lines;
    }

    private static void callsAnswerAsTold(List<String> lines) throws IOException, InterruptedException {
        CHECKS.about("the calls in README.md");
        StringBuilder body = new StringBuilder();
        int told = 0;
        for (String line : lines) {
            Matcher call = TOLD.matcher(line);
            if (call.matches()) {
                told++;
                body.append(program(call, line));
            } else {
                CHECKS.holds("tells no answer: " + line, line.matches("TilesGoAbout hearth = .*|for \\(.*|    hearth\\.letter\\(c\\);|}"));
                body.append(line).append('\n');
            }
        }
        CHECKS.due("exit code of the calls in README.md", run(body.toString()), 0);
        CHECKS.holds("README.md shows hardly any call", told > 20);
    }

    private static String program(Matcher call, String line) {
        String answer = call.group(2);
        String kept = "";
        if (call.group(1) != null) {
            kept = line.substring(0, line.indexOf(';') + 1) + "\n";
            answer = call.group(1).split(" ")[1];
        }
        String shown = line.replace("\\", "\\\\").replace("\"", "\\\"");
        return kept + "due(\"" + shown + "\", " + answer + ", " + call.group(3) + "L);\n";
    }

    /** The exit code of a program of these lines: 1 if an answer is not as due. */
    private static int run(String body) throws IOException, InterruptedException {
        Path folder = Files.createTempDirectory("readme");
        Path file = folder.resolve("Shown.java");
        Files.writeString(file, "public final class Shown {\n"
            + "static int wrong = 0;\n"
            + "static void due(String line, long got, long want) {\n"
            + "if (got != want) { wrong++; System.out.println(\"README.md: \" + line + \" answered \" + got); }\n"
            + "}\n"
            + "public static void main(String[] args) {\n" + body + "System.exit(wrong == 0 ? 0 : 1);\n}\n}\n");
        try {
            return new ProcessBuilder("java", "-cp", System.getProperty("java.class.path"), file.toString())
                .inheritIO().start().waitFor();
        } finally {
            Files.delete(file);
            Files.delete(folder);
        }
    }

    private static void everyCallIsNamed(String readme) {
        CHECKS.about("the table of README.md");
        Set<String> face = new TreeSet<>();
        for (Method m : TilesGoAbout.class.getDeclaredMethods()) {
            if (Modifier.isPublic(m.getModifiers())) {
                face.add(m.getName());
            }
        }
        List<String> named = new ArrayList<>();
        Matcher row = Pattern.compile("(?m)^\\|.*\\|$").matcher(readme);
        while (row.find()) {
            named.addAll(inCode(row.group()));
        }
        CHECKS.holds("it names " + named + ", due is " + face, new TreeSet<>(named).equals(face));
        CHECKS.due("calls named", named.size(), face.size());
    }

    private static void kindsAreAsTold(String readme) {
        CHECKS.about("the KINDS of README.md");
        String source = read(SOURCE);
        Matcher kind = Pattern.compile("(\\d)\\s(\\w+) \\(`(\\w)`\\)").matcher(readme);
        int kinds = 0;
        while (kind.find()) {
            TilesGoAbout x = new TilesGoAbout();
            CHECKS.due("chimney()", Telling.chimney(x, "l" + kind.group(3) + "000;"), 1);
            CHECKS.due("KIND of " + kind.group(2), x.little(0, 0), Integer.parseInt(kind.group(1)));
            String name = kind.group(2).charAt(0) + kind.group(2).substring(1).toLowerCase();
            CHECKS.holds("no class " + name, source.contains("class " + name + " "));
            kinds++;
        }
        CHECKS.due("KINDS told", kinds, 6);
    }

    private static void everyTestIsNamed(String readme) throws IOException {
        CHECKS.about("the tests that README.md lists");
        String list = readme.substring(readme.indexOf("## Tests"));
        Set<String> named = new TreeSet<>();
        for (String name : inCode(list)) {
            if (name.matches("\\w+Test")) {
                named.add(name);
            }
        }
        Set<String> there = new TreeSet<>();
        try (Stream<Path> files = Files.list(TESTS)) {
            files.map(file -> file.getFileName().toString()).filter(name -> name.endsWith("Test.java"))
                .forEach(name -> there.add(name.substring(0, name.length() - ".java".length())));
        }
        CHECKS.holds("it lists " + named + ", due is " + there, named.equals(there));
        for (String name : there) {
            CHECKS.holds(name + " has no main", read(TESTS.resolve(name + ".java")).contains("public static void main("));
        }
        Matcher path = Pattern.compile("`((?:\\.\\./|src/)[\\w./]+)`").matcher(readme);
        while (path.find()) {
            CHECKS.holds("there is no " + path.group(1), Files.exists(Path.of(path.group(1))));
        }
    }

    private static List<String> inCode(String text) {
        List<String> words = new ArrayList<>();
        Matcher word = Pattern.compile("`(\\w+)`").matcher(text);
        while (word.find()) {
            words.add(word.group(1));
        }
        return words;
    }

    private static String read(Path file) {
        try {
            return Files.readString(file);
        } catch (IOException e) {
            throw new IllegalStateException(e);
        }
    }
}
