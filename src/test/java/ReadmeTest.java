import java.io.ByteArrayOutputStream;
import java.io.IOException;
import java.io.PrintStream;
import java.net.URL;
import java.net.URLClassLoader;
import java.nio.charset.StandardCharsets;
import java.nio.file.Files;
import java.nio.file.Path;
import javax.tools.ToolProvider;

/** The example in README.md compiles and prints what README.md says. */
public final class ReadmeTest {
    private static final Path README = Path.of("README.md");

    private ReadmeTest() {
    }

    public static void main(String[] args) throws IOException, ReflectiveOperationException {
        String readme = Files.readString(README);
        Path directory = Files.createTempDirectory("readme");
        Path source = directory.resolve("Example.java");
        Path compiled = directory.resolve("Example.class");
        try {
            Files.writeString(source, block(readme, "java"));
            Check.due(1, "the example compiles", 0, () -> compile(source, directory));
            String printed = printedBy(directory);
            Check.due(1, "the example's answers", block(readme, "text"), () -> printed);
        } finally {
            Files.deleteIfExists(compiled);
            Files.deleteIfExists(source);
            Files.delete(directory);
        }
        Check.end();
    }

    private static String block(String readme, String kind) {
        String opening = "```" + kind + "\n";
        int start = readme.indexOf(opening) + opening.length();
        return readme.substring(start, readme.indexOf("```\n", start));
    }

    private static int compile(Path source, Path directory) {
        return ToolProvider.getSystemJavaCompiler().run(null, null, null, "-Xlint:all", "-Werror", "-cp",
                System.getProperty("java.class.path"), "-d", directory.toString(), source.toString());
    }

    private static String printedBy(Path directory) throws IOException, ReflectiveOperationException {
        PrintStream before = System.out;
        ByteArrayOutputStream printed = new ByteArrayOutputStream();
        try (URLClassLoader loader = new URLClassLoader(new URL[] {directory.toUri().toURL()})) {
            System.setOut(new PrintStream(printed, true, StandardCharsets.UTF_8));
            loader.loadClass("Example").getMethod("main", String[].class).invoke(null, (Object) new String[0]);
        } finally {
            System.setOut(before);
        }
        return printed.toString(StandardCharsets.UTF_8).replace(System.lineSeparator(), "\n");
    }
}
