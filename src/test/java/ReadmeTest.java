import java.io.ByteArrayOutputStream;
import java.io.PrintStream;
import java.lang.reflect.Method;
import java.lang.reflect.Modifier;
import java.net.URL;
import java.net.URLClassLoader;
import java.nio.file.Files;
import java.nio.file.Path;
import java.util.Comparator;
import java.util.regex.Matcher;
import java.util.regex.Pattern;
import java.util.stream.Stream;
import javax.tools.JavaCompiler;
import javax.tools.ToolProvider;

/** What README.md says of the class holds: its example prints what is told there, and no call of the face is left out. */
public final class ReadmeTest {
    private static final Due due = new Due("ReadmeTest");

    public static void main(String[] args) throws Exception {
        String text = Files.readString(Path.of("README.md"));
        String printed = printedBy(block(text, "java"));
        due.holds(printed.equals(block(text, "text")), "the example prints what README.md tells; it printed\n" + printed);
        everyCallIsTold(text);
        due.holds(text.contains(".ci/run"), "how to run the tests is told");
        due.done();
    }

    private static String block(String text, String sort) {
        Matcher found = Pattern.compile("(?s)```" + sort + "\n(.*?)```").matcher(text);
        due.holds(found.find(), "README.md has a block of " + sort);
        return found.reset().find() ? found.group(1) : "";
    }

    /** A row of a table for each call, with as many numbers as it takes. */
    private static void everyCallIsTold(String text) {
        for (Method method : WaterWorks.class.getDeclaredMethods()) {
            if (Modifier.isPublic(method.getModifiers())) {
                Matcher row = Pattern.compile("\\| `" + method.getName() + "\\(([^)]*)\\)` \\|").matcher(text);
                boolean found = row.find();
                due.holds(found, "README.md tells " + method.getName());
                int numbers = !found || row.group(1).isEmpty() ? 0 : row.group(1).split(",").length;
                due.is(numbers, method.getParameterCount(), "how many numbers README.md gives to " + method.getName());
            }
        }
    }

    private static String printedBy(String program) throws Exception {
        Path folder = Files.createTempDirectory("readme");
        try {
            Path source = Files.writeString(folder.resolve("Example.java"), program);
            JavaCompiler compiler = ToolProvider.getSystemJavaCompiler();
            String path = System.getProperty("java.class.path");
            due.is(compiler.run(null, null, null, "-cp", path, "-d", folder.toString(), source.toString()), 0, "compiling the example");
            return run(folder);
        } finally {
            try (Stream<Path> all = Files.walk(folder)) {
                all.sorted(Comparator.reverseOrder()).forEach(file -> file.toFile().delete());
            }
        }
    }

    private static String run(Path folder) throws Exception {
        PrintStream before = System.out;
        ByteArrayOutputStream printed = new ByteArrayOutputStream();
        try (URLClassLoader loader = new URLClassLoader(new URL[] {folder.toUri().toURL()})) {
            Method main = loader.loadClass("Example").getMethod("main", String[].class);
            System.setOut(new PrintStream(printed, true));
            main.invoke(null, (Object) new String[0]);
        } finally {
            System.setOut(before);
        }
        return printed.toString().replace(System.lineSeparator(), "\n");
    }
}
