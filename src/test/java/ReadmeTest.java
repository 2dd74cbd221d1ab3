import java.io.ByteArrayOutputStream;
import java.io.IOException;
import java.io.PrintStream;
import java.net.URL;
import java.net.URLClassLoader;
import java.nio.file.Files;
import java.nio.file.Path;
import java.util.ArrayList;
import java.util.List;
import java.util.regex.Matcher;
import java.util.regex.Pattern;
import javax.tools.ToolProvider;

/** The program in README.md: it compiles, and prints what its comments say. Run from the root of the checkout. */
final class ReadmeTest {
    private static final Checks CHECKS = new Checks("ReadmeTest");
    private static final Path PLACE = Path.of("build", "readme");
    private static final Pattern PRINTED = Pattern.compile("println\\(.*\\); *// (-?\\d+)");

    public static void main(String[] args) throws IOException, ReflectiveOperationException {
        String program = program(Files.readString(Path.of("README.md")));
        List<String> due = new ArrayList<>();
        Matcher printed = PRINTED.matcher(program);
        while (printed.find()) {
            due.add(printed.group(1));
        }
        CHECKS.equal("README.md shows answers", true, due.size() > 1);
        CHECKS.equal("the program in README.md", due, linesOf(program));
        CHECKS.close();
    }

    private static String program(String readme) {
        int start = readme.indexOf("```java\n") + 8;
        return readme.substring(start, readme.indexOf("```", start));
    }

    private static List<String> linesOf(String program) throws IOException, ReflectiveOperationException {
        Files.createDirectories(PLACE);
        Path source = Files.writeString(PLACE.resolve("Shop.java"), program);
        int failed = ToolProvider.getSystemJavaCompiler().run(null, null, null,
                "-cp", System.getProperty("java.class.path"), "-d", PLACE.toString(), source.toString());
        if (failed != 0) {
            return List.of("does not compile");
        }
        PrintStream out = System.out;
        ByteArrayOutputStream lines = new ByteArrayOutputStream();
        System.setOut(new PrintStream(lines, true));
        try (URLClassLoader loader = new URLClassLoader(new URL[] {PLACE.toUri().toURL()})) {
            loader.loadClass("Shop").getMethod("main", String[].class).invoke(null, (Object) new String[0]);
        } finally {
            System.setOut(out);
        }
        return lines.toString().lines().toList();
    }
}
