import java.io.IOException;
import java.lang.reflect.Method;
import java.lang.reflect.Modifier;
import java.net.URL;
import java.net.URLClassLoader;
import java.nio.file.Files;
import java.nio.file.Path;
import java.util.ArrayList;
import java.util.Comparator;
import java.util.List;
import java.util.Set;
import java.util.TreeSet;
import java.util.regex.Matcher;
import java.util.regex.Pattern;
import java.util.stream.Stream;
import javax.tools.ToolProvider;

/** What README.md says of the class and of its tests is true of them as they stand. */
public final class ReadmeTest {
    private static final Due due = new Due();
    /** A call and the answer that the README names behind it; the call may go over two lines. */
    private static final Pattern NAMED = Pattern.compile("(?s)((?:x\\.|tell\\().*?);\\s*// (-?\\d+)\\b[^\n]*\n");

    public static void main(String[] args) throws IOException, ReflectiveOperationException {
        String readme = Files.readString(Path.of("README.md"));
        List<String> blocks = blocksOf(readme);
        due.is("blocks of Java in the README", blocks.size(), 2);
        if (blocks.size() == 2) {
            example(blocks.get(0), blocks.get(1));
        }
        calls(readme);
        tests(readme);
        codes(readme);
        due.end("ReadmeTest");
    }

    private static List<String> blocksOf(String readme) {
        List<String> blocks = new ArrayList<>();
        Matcher block = Pattern.compile("(?s)```java\n(.*?)```").matcher(readme);
        while (block.find()) {
            blocks.add(block.group(1));
        }
        return blocks;
    }

    /** The example as it stands there, but that each answer is kept. */
    private static void example(String method, String lines) throws IOException, ReflectiveOperationException {
        List<String> called = new ArrayList<>();
        List<Long> named = new ArrayList<>();
        Matcher call = NAMED.matcher(lines);
        while (call.find()) {
            called.add(call.group(1));
            named.add(Long.parseLong(call.group(2)));
        }
        long begun = lines.lines().filter(l -> l.startsWith("x.") || l.startsWith("tell(")).count();
        due.is("calls of the example that name their answers", named.size(), begun);
        String kept = NAMED.matcher(lines).replaceAll("got.add((long) $1);\n");
        List<?> got = answersOf("final class ReadmeExample {\n" + method + "static java.util.List<Long> answers() {\n"
                + "java.util.List<Long> got = new java.util.ArrayList<>();\n" + kept + "return got;\n}\n}\n");
        due.is("answers of the example", got.size(), named.size());
        for (int i = 0; i < Math.min(got.size(), named.size()); i++) {
            due.is("README: " + called.get(i), (Long) got.get(i), named.get(i));
        }
    }

    private static List<?> answersOf(String source) throws IOException, ReflectiveOperationException {
        Path dir = Files.createTempDirectory("readme");
        try {
            Path file = Files.writeString(dir.resolve("ReadmeExample.java"), source);
            String classes = System.getProperty("java.class.path");
            int code = ToolProvider.getSystemJavaCompiler()
                    .run(null, null, null, "-cp", classes, "-d", dir.toString(), file.toString());
            due.is("compiling the example", code, 0);
            if (code != 0) {
                return List.of();
            }
            try (URLClassLoader loader = new URLClassLoader(new URL[] {dir.toUri().toURL()})) {
                Method answers = loader.loadClass("ReadmeExample").getDeclaredMethod("answers");
                answers.setAccessible(true);
                return (List<?>) answers.invoke(null);
            }
        } finally {
            remove(dir);
        }
    }

    private static void remove(Path dir) throws IOException {
        try (Stream<Path> files = Files.walk(dir)) {
            for (Path file : files.sorted(Comparator.reverseOrder()).toList()) {
                Files.delete(file);
            }
        }
    }

    /** The table of calls has each call of the class, and no other. */
    private static void calls(String readme) {
        Set<String> face = new TreeSet<>();
        for (Method m : StoneMeet.class.getDeclaredMethods()) {
            if (Modifier.isPublic(m.getModifiers())) {
                face.add(m.getName());
            }
        }
        List<String> listed = new ArrayList<>();
        Matcher row = Pattern.compile("(?m)^\\| [a-z, ]+ \\| ((?:`[a-zA-Z]+` ?)+)\\|$").matcher(readme);
        while (row.find()) {
            for (String name : row.group(1).trim().split(" ")) {
                listed.add(name.replace("`", ""));
            }
        }
        due.is("calls in the README's table", listed.size(), face.size());
        for (String name : face) {
            due.is("the README's table has " + name, listed.contains(name) ? 1 : 0, 1);
        }
    }

    /** Each test is named, and what is named is there. */
    private static void tests(String readme) throws IOException {
        Set<String> there = new TreeSet<>();
        try (Stream<Path> files = Files.list(Path.of("src/test/java"))) {
            files.forEach(file -> there.add(file.getFileName().toString().replace(".java", "")));
        }
        there.stream().filter(name -> name.endsWith("Test"))
                .forEach(name -> due.is("the README names " + name, readme.contains("`" + name + "`") ? 1 : 0, 1));
        Matcher test = Pattern.compile("`([A-Z][A-Za-z]*[a-z])`").matcher(readme);
        while (test.find()) {
            due.is("there is a test " + test.group(1), there.contains(test.group(1)) ? 1 : 0, 1);
        }
        Matcher path = Pattern.compile("`((?:\\.\\./|src/|\\.ci/)[A-Za-z/.]+)`").matcher(readme);
        while (path.find()) {
            due.is("there is " + path.group(1), Files.exists(Path.of(path.group(1))) ? 1 : 0, 1);
        }
        due.is(".ci/run can be called", Files.isExecutable(Path.of(".ci/run")) ? 1 : 0, 1);
    }

    /** What the README says of codes: a call for each, and the tape behind a text. */
    private static void codes(String readme) {
        StoneMeet x = Due.caveOf("cave drops 1; pair gap 2; falls: gaps < 2;");
        x.numbers(0, 0, 11);
        long[] got = {x.pair(1, 0), x.order(-1), x.seen(0, 0), x.restore(0), x.perform(1), x.write(0, 11, 0), x.lead(0)};
        long[] codes = {-2, -3, -4, -5, -6, -7, -11};
        for (int i = 0; i < codes.length; i++) {
            due.is("a call that is refused by " + codes[i], got[i], codes[i]);
            due.is("the README tells " + codes[i], readme.contains("| " + codes[i]) ? 1 : 0, 1);
        }
        x.year(0);
        due.is("to saw under a fallen roof", x.saw(0), -12);
        due.is("the README tells -12", readme.contains("| -11, -12 |") ? 1 : 0, 1);
        String[] faulty = {"Cave", "pair", "cave drops 5;", "cave drops 0;" + "pair gap 1;".repeat(5)};
        for (int i = 0; i < faulty.length; i++) {
            due.is("a text with fault " + (i + 1), Due.tell(x, faulty[i]), -31 - i);
            due.is("its fault", x.fault(0), i + 1);
        }
        due.is("the README tells -31 to -34", readme.contains("| -31 to -34 |") ? 1 : 0, 1);
        due.is("grown() of no pair", x.grown(1, 0, 0), -99000002);
        Due.tape(x, "cave drops 1;" + " ".repeat(40));
        due.is("more than is on the tape", x.cave(61), -3);
        due.is("the tape behind a text that wasn't read", x.count(8), 60);
        due.is("a text with a fault", x.cave(12), -32);
        due.is("the tape behind a text that was read", x.count(8), 0);
    }
}
