import java.io.ByteArrayOutputStream;
import java.io.IOException;
import java.io.PrintStream;
import java.io.UncheckedIOException;
import java.lang.reflect.Method;
import java.net.URL;
import java.net.URLClassLoader;
import java.nio.charset.StandardCharsets;
import java.nio.file.Files;
import java.nio.file.Path;
import java.util.ArrayList;
import java.util.List;
import java.util.regex.Matcher;
import java.util.regex.Pattern;
import javax.tools.ToolProvider;

/** The example of README.md: a program that compiles, calls each method, and prints the answers told behind its calls. */
public final class ReadmeTest {
    private static final Check CHECK = new Check("README.md");
    private static final Path README = Path.of("README.md");
    private static final Path BUILD = Path.of("build", "readme");
    private static final Pattern PRINTED = Pattern.compile("System\\.out\\.println\\(.*;\\s*// ([^:]+): .+");

    public static void main(String[] args) {
        CHECK.test("an example whose answers are those that the class gives", ReadmeTest::dueAnswers);
        CHECK.test("how an object is made and called: each method is", ReadmeTest::dueMethods);
        CHECK.end();
    }

    /** The lines of the one program that README.md holds. */
    private static List<String> program() {
        List<String> lines = new ArrayList<>();
        boolean inside = false;
        int programs = 0;
        for (String line : linesOf(README)) {
            if (line.equals("```")) {
                inside = false;
            }
            if (inside) {
                lines.add(line);
            }
            if (line.equals("```java")) {
                inside = true;
                programs++;
            }
        }
        CHECK.due("programs", 1, programs);
        return lines;
    }

    private static void dueAnswers() {
        List<String> want = new ArrayList<>();
        List<String> calls = new ArrayList<>();
        for (String line : program()) {
            if (line.contains("println")) {
                Matcher printed = PRINTED.matcher(line.strip());
                CHECK.dueObject("an answer is told by " + line, true, printed.matches());
                want.add(printed.matches() ? printed.group(1) : "");
                calls.add(line.strip());
            }
        }
        List<String> got = printedBy(program());
        CHECK.due("answers", want.size(), got.size());
        for (int i = 0; i < want.size() && i < got.size(); i++) {
            CHECK.dueObject(calls.get(i), want.get(i), got.get(i));
        }
    }

    private static void dueMethods() {
        String program = String.join("\n", program());
        CHECK.dueObject("an object is made", true, program.contains("MoonGate garden = new MoonGate();"));
        for (Method method : MoonGate.class.getDeclaredMethods()) {
            if (java.lang.reflect.Modifier.isPublic(method.getModifiers())) {
                String call = "garden." + method.getName() + "(";
                CHECK.dueObject(call + " is called", true, program.contains(call));
            }
        }
    }

    private static List<String> printedBy(List<String> program) {
        Path source = BUILD.resolve("Visit.java");
        write(source, program);
        int failed = ToolProvider.getSystemJavaCompiler().run(null, null, null, "--release", "17",
            "-cp", System.getProperty("java.class.path"), "-d", BUILD.toString(), source.toString());
        CHECK.due("compiling it", 0, failed);
        return failed == 0 ? printedBy("Visit") : List.of();
    }

    private static List<String> printedBy(String name) {
        PrintStream screen = System.out;
        ByteArrayOutputStream printed = new ByteArrayOutputStream();
        try (URLClassLoader loader = new URLClassLoader(new URL[] {BUILD.toUri().toURL()})) {
            System.setOut(new PrintStream(printed, true, StandardCharsets.UTF_8));
            loader.loadClass(name).getMethod("main", String[].class).invoke(null, (Object) new String[0]);
        } catch (IOException | ReflectiveOperationException e) {
            throw new IllegalStateException("the program does not run", e);
        } finally {
            System.setOut(screen);
        }
        return printed.toString(StandardCharsets.UTF_8).lines().toList();
    }

    private static List<String> linesOf(Path file) {
        try {
            return Files.readAllLines(file);
        } catch (IOException e) {
            throw new UncheckedIOException(e);
        }
    }

    private static void write(Path file, List<String> lines) {
        try {
            Files.createDirectories(BUILD);
            Files.write(file, lines);
        } catch (IOException e) {
            throw new UncheckedIOException(e);
        }
    }
}
