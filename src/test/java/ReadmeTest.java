import java.io.ByteArrayOutputStream;
import java.io.IOException;
import java.io.PrintStream;
import java.lang.reflect.Method;
import java.lang.reflect.Modifier;
import java.net.URL;
import java.net.URLClassLoader;
import java.nio.charset.StandardCharsets;
import java.nio.file.Files;
import java.nio.file.Path;
import java.util.regex.Matcher;
import java.util.regex.Pattern;
import java.util.stream.Stream;
import javax.tools.JavaCompiler;
import javax.tools.ToolProvider;

/** README.md's example compiles and prints what README.md says; README.md names each call and how to run the tests. */
public final class ReadmeTest {
    private ReadmeTest() {
    }

    public static void main(String[] args) throws Exception {
        String readme = Files.readString(Path.of("README.md"), StandardCharsets.UTF_8);
        Due.about("README.md");
        String printed = printedBy(block(readme, "java"));
        String due = block(readme, "text");
        if (!printed.equals(due)) {
            System.out.println("the example printed:\n" + printed + "due is:\n" + due);
        }
        Due.due("the example prints what is told", !due.isEmpty() && printed.equals(due), true);
        for (Method method : GuardedStreets.class.getDeclaredMethods()) {
            if (Modifier.isPublic(method.getModifiers())) {
                Due.due("names " + method.getName(), parametersNamed(readme, method.getName()), method.getParameterCount());
            }
        }
        Due.due("how to run the tests", readme.contains(".ci/run"), true);
        Due.end();
    }

    /** What stands between the first marks of this kind. */
    private static String block(String readme, String kind) {
        Matcher matcher = Pattern.compile("(?s)```" + kind + "\\n(.*?)```\\n").matcher(readme);
        return matcher.find() ? matcher.group(1) : "";
    }

    /** How many parameters the table of calls gives it, or -1. */
    private static int parametersNamed(String readme, String call) {
        Matcher matcher = Pattern.compile("`" + call + "\\(([^)]*)\\)`").matcher(readme);
        if (!matcher.find()) {
            return -1;
        }
        return matcher.group(1).isEmpty() ? 0 : matcher.group(1).split(", ").length;
    }

    private static String printedBy(String program) throws Exception {
        JavaCompiler compiler = ToolProvider.getSystemJavaCompiler();
        Path folder = Files.createTempDirectory("readme");
        try {
            Path file = folder.resolve("Example.java");
            Files.writeString(file, program, StandardCharsets.UTF_8);
            String classes = System.getProperty("java.class.path");
            int code = compiler.run(null, System.out, System.out, "-Xlint:all", "-Werror", "-cp", classes, "-d",
                    folder.toString(), file.toString());
            return code == 0 ? printedIn(folder) : "it does not compile\n";
        } finally {
            remove(folder);
        }
    }

    private static String printedIn(Path folder) throws Exception {
        ByteArrayOutputStream bytes = new ByteArrayOutputStream();
        PrintStream before = System.out;
        try (URLClassLoader loader = new URLClassLoader(new URL[] {folder.toUri().toURL()})) {
            System.setOut(new PrintStream(bytes, true, StandardCharsets.UTF_8));
            loader.loadClass("Example").getMethod("main", String[].class).invoke(null, (Object) new String[0]);
        } finally {
            System.setOut(before);
        }
        return bytes.toString(StandardCharsets.UTF_8).replace(System.lineSeparator(), "\n");
    }

    private static void remove(Path folder) throws IOException {
        try (Stream<Path> files = Files.list(folder)) {
            for (Path file : files.toList()) {
                Files.delete(file);
            }
        }
        Files.delete(folder);
    }
}
