import java.io.IOException;
import java.lang.reflect.Constructor;
import java.lang.reflect.Field;
import java.lang.reflect.Member;
import java.lang.reflect.Method;
import java.lang.reflect.Modifier;
import java.nio.file.Files;
import java.nio.file.Path;
import java.util.ArrayList;
import java.util.Arrays;
import java.util.List;
import java.util.Set;
import java.util.TreeSet;
import java.util.regex.Matcher;
import java.util.regex.Pattern;

/** The face of the class, and those rules of LANGUAGE.md that can be looked up in its text. */
public final class LanguageTest {
    private static final Path SOURCE = Path.of("src/main/java/TilesGoAbout.java");
    private static final Path DOCUMENT = Path.of("../shared/DOC.md");
    private static final Checks CHECKS = new Checks();

    public static void main(String[] args) throws IOException {
        String source = Files.readString(SOURCE);
        face();
        inside();
        text(source, withoutComments(source));
        lengths(source);
        CHECKS.end();
    }

    private static boolean isPrivate(Member m) {
        return Modifier.isPrivate(m.getModifiers()) || m.getName().contains("$");
    }

    private static String told(Method m) {
        StringBuilder types = new StringBuilder();
        for (Class<?> type : m.getParameterTypes()) {
            types.append(types.length() == 0 ? "" : ",").append(type.getName());
        }
        return m.getReturnType().getName() + " " + m.getName() + "(" + types + ")";
    }

    private static void face() throws IOException {
        CHECKS.about("rule 1");
        Set<String> due = new TreeSet<>();
        Matcher line = Pattern.compile("    public (int|long) (\\w+)\\(([^)]*)\\);").matcher(Files.readString(DOCUMENT));
        while (line.find()) {
            due.add(line.group(1) + " " + line.group(2) + "(" + line.group(3).replaceAll(" \\w+(?=,|$)", "").replace(" ", "") + ")");
        }
        CHECKS.due("methods in the document's face", due.size(), 38);
        Set<String> there = new TreeSet<>();
        for (Method m : TilesGoAbout.class.getDeclaredMethods()) {
            if (Modifier.isPublic(m.getModifiers())) {
                there.add(told(m));
            } else {
                CHECKS.holds(m + " is not private", isPrivate(m));
            }
        }
        CHECKS.holds("the face is " + there + ", due is " + due, there.equals(due));
        CHECKS.holds("the class is public and final", Modifier.isPublic(TilesGoAbout.class.getModifiers())
            && Modifier.isFinal(TilesGoAbout.class.getModifiers()));
        Constructor<?>[] makers = TilesGoAbout.class.getDeclaredConstructors();
        CHECKS.holds("one public constructor", makers.length == 1 && Modifier.isPublic(makers[0].getModifiers())
            && makers[0].getParameterCount() == 0);
        for (Field f : TilesGoAbout.class.getDeclaredFields()) {
            CHECKS.holds(f + " is not private", isPrivate(f));
        }
    }

    private static void inside() {
        Set<String> face = new TreeSet<>();
        List<Class<?>> all = new ArrayList<>(List.of(TilesGoAbout.class));
        all.addAll(Arrays.asList(TilesGoAbout.class.getDeclaredClasses()));
        for (Method m : TilesGoAbout.class.getDeclaredMethods()) {
            if (Modifier.isPublic(m.getModifiers())) {
                face.add(m.getName());
            }
        }
        CHECKS.about("rule 11");
        CHECKS.holds("twelve classes at most", all.size() <= 12);
        for (Class<?> c : all) {
            CHECKS.about("rule 2, " + c.getSimpleName());
            if (c != TilesGoAbout.class) {
                CHECKS.holds("a class inside is static, and not public", Modifier.isStatic(c.getModifiers())
                    && !Modifier.isPublic(c.getModifiers()) && !Modifier.isProtected(c.getModifiers()));
            }
            insideOne(c, face);
        }
    }

    private static void insideOne(Class<?> c, Set<String> face) {
        CHECKS.about("rules 1 and 11, " + c.getSimpleName());
        for (Method m : c.getDeclaredMethods()) {
            CHECKS.holds(m.getName() + " takes more than seven", m.getParameterCount() <= 7);
            CHECKS.holds(m.getName() + " bears a public one's name",
                c == TilesGoAbout.class && Modifier.isPublic(m.getModifiers()) || !face.contains(m.getName()));
        }
        CHECKS.about("rules 3 and 5, " + c.getSimpleName());
        int fields = 0;
        for (Field f : c.getDeclaredFields()) {
            if (Modifier.isStatic(f.getModifiers())) {
                CHECKS.holds(f.getName() + " is static and not final", Modifier.isFinal(f.getModifiers()));
            } else {
                fields++;
            }
        }
        CHECKS.about("rule 11, " + c.getSimpleName());
        CHECKS.holds("some twenty fields", fields <= 20);
    }

    private static String withoutComments(String source) {
        return source.replaceAll("(?s)/\\*.*?\\*/", " ").replaceAll("//[^\n]*", " ").replaceAll("'(\\\\.|[^'])'", "0");
    }

    private static void text(String source, String code) {
        for (String word : new String[] {"throw", "throws", "try", "catch", "finally", "synchronized", "assert", "import",
            "package", "native", "volatile", "transient", "strictfp", "Object", "System", "Thread", "Random"}) {
            CHECKS.about("rules 4, 6 and 13");
            CHECKS.holds("the word " + word, !Pattern.compile("\\b" + word + "\\b").matcher(code).find());
        }
        CHECKS.about("rules 2 and 6");
        CHECKS.holds("no lambda, method reference or annotation",
            !code.contains("->") && !code.contains("::") && !code.contains("@"));
        CHECKS.about("rule 3");
        for (int i = 0; i < source.length(); i++) {
            CHECKS.holds("a sign above 127 at " + i, source.charAt(i) < 128);
        }
        CHECKS.about("rule 4");
        Matcher library = Pattern.compile("\\b(Math|Integer|Long|Arrays)\\.(\\w+)").matcher(code);
        while (library.find()) {
            CHECKS.holds(library.group() + " is not known to be allowed",
                List.of("Math.abs", "Integer.bitCount").contains(library.group()));
        }
        CHECKS.about("the room");
        for (String line : code.split("\n")) {
            CHECKS.holds("something is made in a call: " + line,
                !line.contains(" new ") || line.matches(" {4,8}(private )?final .*"));
        }
    }

    private static void lengths(String source) {
        CHECKS.about("rule 11");
        String[] lines = source.split("\n");
        for (int i = 0; i < lines.length; i++) {
            Matcher opening = Pattern.compile("( {4,8})[\\w\\[\\] ]+\\([^)]*\\) \\{").matcher(lines[i]);
            if (!opening.matches()) {
                continue;
            }
            int end = i;
            while (end < lines.length && !lines[end].equals(opening.group(1) + "}")) {
                end++;
            }
            CHECKS.holds("longer than sixty lines: " + lines[i], end < lines.length && end - i <= 60);
        }
    }
}
