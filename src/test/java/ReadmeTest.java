import java.io.ByteArrayOutputStream;
import java.io.IOException;
import java.io.PrintStream;
import java.io.UncheckedIOException;
import java.lang.reflect.Method;
import java.lang.reflect.Modifier;
import java.net.URL;
import java.net.URLClassLoader;
import java.nio.charset.StandardCharsets;
import java.nio.file.Files;
import java.nio.file.Path;
import java.util.ArrayList;
import java.util.Comparator;
import java.util.List;
import java.util.regex.Matcher;
import java.util.regex.Pattern;
import java.util.stream.Stream;
import javax.tools.ToolProvider;

/** README.md: its program prints what stands behind its lines; each call and each test is named. */
public final class ReadmeTest {
    private static final Due due = new Due("ReadmeTest");

    private ReadmeTest() {
    }

    public static void main(String[] args) throws Exception {
        Path root = Path.of(System.getProperty("project.root", "."));
        String page = Files.readString(root.resolve("README.md"), StandardCharsets.UTF_8);
        callsAreNamed(page);
        testsAreNamed(page, root.resolve("src/test/java"));
        Matcher block = Pattern.compile("(?s)```java\n(.*?)```").matcher(page);
        int programs = 0;
        while (block.find()) {
            programs++;
            printsWhatStandsThere(block.group(1));
        }
        due.is("programs", programs, 1);
        due.close();
    }

    private static void callsAreNamed(String page) {
        for (Method method : NightStones.class.getDeclaredMethods()) {
            if (Modifier.isPublic(method.getModifiers())) {
                due.holds(method.getName() + " is named", page.contains("`" + method.getName() + "(`"));
            }
        }
    }

    private static void testsAreNamed(String page, Path tests) throws IOException {
        try (Stream<Path> files = Files.list(tests)) {
            files.map(file -> file.getFileName().toString().replace(".java", ""))
                .forEach(name -> due.holds(name + " is named", page.contains("`" + name + "`")));
        }
    }

    private static void printsWhatStandsThere(String program) throws Exception {
        List<String> answersDue = new ArrayList<>();
        List<String> lines = new ArrayList<>();
        Matcher line = Pattern.compile("System\\.out\\.println\\((.*)\\); *(?:// (-?\\d+))?").matcher(program);
        while (line.find()) {
            lines.add(line.group(1));
            answersDue.add("" + line.group(2));
        }
        String[] printed = printedBy(program).split("\\R");
        due.is("lines printed", printed.length, lines.size());
        for (int k = 0; k < Math.min(printed.length, lines.size()); k++) {
            boolean isDue = printed[k].equals(answersDue.get(k));
            due.holds(lines.get(k) + " printed " + printed[k] + " where " + answersDue.get(k) + " stands", isDue);
        }
    }

    private static String printedBy(String program) throws Exception {
        Path folder = Files.createTempDirectory("readme");
        try {
            Path file = Files.writeString(folder.resolve("Example.java"), program);
            String classes = System.getProperty("java.class.path");
            due.is("what javac answers", ToolProvider.getSystemJavaCompiler()
                .run(null, null, null, "-d", folder.toString(), "-cp", classes, file.toString()), 0);
            return due.isAllWell() ? run(folder) : "";
        } finally {
            remove(folder);
        }
    }

    private static String run(Path folder) throws Exception {
        ByteArrayOutputStream printed = new ByteArrayOutputStream();
        PrintStream out = System.out;
        try (URLClassLoader loader = new URLClassLoader(new URL[] {folder.toUri().toURL()})) {
            System.setOut(new PrintStream(printed, true, StandardCharsets.UTF_8));
            loader.loadClass("Example").getMethod("main", String[].class).invoke(null, (Object) new String[0]);
        } finally {
            System.setOut(out);
        }
        return printed.toString(StandardCharsets.UTF_8);
    }

    private static void remove(Path folder) throws IOException {
        try (Stream<Path> files = Files.walk(folder)) {
            files.sorted(Comparator.reverseOrder()).forEach(ReadmeTest::delete);
        }
    }

    private static void delete(Path file) {
        try {
            Files.delete(file);
        } catch (IOException failed) {
            throw new UncheckedIOException(failed);
        }
    }
}
