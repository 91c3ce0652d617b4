import java.io.ByteArrayOutputStream;
import java.io.File;
import java.io.IOException;
import java.io.PrintStream;
import java.lang.reflect.InvocationTargetException;
import java.net.URL;
import java.net.URLClassLoader;
import java.nio.file.Files;
import java.nio.file.Path;
import java.util.ArrayList;
import java.util.List;
import java.util.regex.Matcher;
import java.util.regex.Pattern;
import javax.tools.JavaCompiler;
import javax.tools.ToolProvider;

/** README.md: its example compiles and prints what stands there, and the tests that it names are there. */
public final class ReadmeTest {
    private static final Path README = Path.of("README.md");
    private static final Path TESTS = Path.of("src", "test", "java");
    private static final String OPENS = "```java";
    private static final String CLOSES = "```";
    private static final String TELLS = "// ";

    public static void main(String[] args) throws IOException, ReflectiveOperationException {
        List<String> readme = Files.readAllLines(README);
        example(readme);
        namedTests(readme);
        Check.end();
    }

    private static void example(List<String> readme) throws IOException, ReflectiveOperationException {
        Check.sentence("README.md's example of use answers as README.md says");
        List<String> code = code(readme);
        List<String> due = told(code);
        if (due.isEmpty()) {
            Check.due("an example that tells what it prints", 0, 1);
            return;
        }
        List<String> printed = run(code);
        Check.due("the number of lines", printed.size(), due.size());
        for (int k = 0; k < Math.min(due.size(), printed.size()); k++) {
            Check.due("line " + (k + 1) + " of the example", printed.get(k), due.get(k));
        }
    }

    private static List<String> code(List<String> readme) {
        int opens = readme.indexOf(OPENS);
        List<String> behind = readme.subList(opens + 1, readme.size());
        int closes = behind.indexOf(CLOSES);
        return opens < 0 || closes < 0 ? List.of() : behind.subList(0, closes);
    }

    private static List<String> told(List<String> code) {
        List<String> lines = new ArrayList<>();
        for (String line : code) {
            int tells = line.indexOf(TELLS);
            if (tells >= 0) {
                lines.add(line.substring(tells + TELLS.length()));
            }
        }
        return lines;
    }

    private static List<String> run(List<String> code) throws IOException, ReflectiveOperationException {
        Path room = Files.createTempDirectory("readme");
        try {
            Path source = Files.write(room.resolve("Example.java"), code);
            return compiles(source, room) ? printed(room) : List.of();
        } finally {
            remove(room);
        }
    }

    private static boolean compiles(Path source, Path room) {
        JavaCompiler compiler = ToolProvider.getSystemJavaCompiler();
        int exit = compiler.run(null, null, null, "-Xlint:all", "-Werror", "-cp", System.getProperty("java.class.path"),
            "-d", room.toString(), source.toString());
        Check.due("javac of the example", exit, 0);
        return exit == 0;
    }

    private static List<String> printed(Path room) throws IOException, ReflectiveOperationException {
        PrintStream screen = System.out;
        ByteArrayOutputStream bytes = new ByteArrayOutputStream();
        try (URLClassLoader loader = new URLClassLoader(new URL[] {room.toUri().toURL()})) {
            System.setOut(new PrintStream(bytes, true));
            loader.loadClass("Example").getMethod("main", String[].class).invoke(null, (Object) new String[0]);
        } catch (InvocationTargetException e) {
            bytes.writeBytes(("threw " + e.getCause() + "\n").getBytes());
        } finally {
            System.setOut(screen);
        }
        return bytes.toString().lines().toList();
    }

    private static void remove(Path room) throws IOException {
        for (File file : room.toFile().listFiles()) {
            Files.delete(file.toPath());
        }
        Files.delete(room);
    }

    private static void namedTests(List<String> readme) {
        Check.sentence("the tests that README.md names");
        for (String line : readme) {
            Matcher name = Pattern.compile("`([A-Za-z]+Test)`").matcher(line);
            while (name.find()) {
                Check.due(name.group(1), Files.exists(TESTS.resolve(name.group(1) + ".java")) ? 1 : 0, 1);
            }
        }
    }
}
