import java.io.ByteArrayOutputStream;
import java.io.IOException;
import java.io.PrintStream;
import java.net.URL;
import java.net.URLClassLoader;
import java.nio.file.Files;
import java.nio.file.Path;
import java.util.ArrayList;
import java.util.List;
import java.util.regex.Matcher;
import java.util.regex.Pattern;
import javax.tools.ToolProvider;

/** The example of README.md: it compiles, and prints what its comments say. */
public final class ReadmeTest {
    private static final Pattern EXAMPLE = Pattern.compile("(?s)```java\n(.*?)```");
    // What is printed stands behind the call, up to a colon, or on lines of its own.
    private static final Pattern PRINTED = Pattern.compile("println\\(.*// ([^:]*)|^ *// (.*)");

    private ReadmeTest() {
    }

    public static void main(String[] args) throws IOException, ReflectiveOperationException {
        Matcher found = EXAMPLE.matcher(Files.readString(Path.of("README.md")));
        Check.same("an example in README.md", found.find(), true);
        String example = found.group(1);
        Path folder = Files.createTempDirectory("readme");
        Path source = folder.resolve("Example.java");
        try {
            Files.writeString(source, example);
            int errors = ToolProvider.getSystemJavaCompiler().run(null, null, null,
                "-classpath", System.getProperty("java.class.path"), "-d", folder.toString(), source.toString());
            Check.same("errors of the compiler", errors, 0);
            Check.same("what the example prints", printedBy(folder), printedBeside(example));
        } finally {
            Files.deleteIfExists(folder.resolve("Example.class"));
            Files.delete(source);
            Files.delete(folder);
        }
        Check.finish("ReadmeTest");
    }

    private static List<String> printedBy(Path folder) throws IOException, ReflectiveOperationException {
        PrintStream before = System.out;
        ByteArrayOutputStream printed = new ByteArrayOutputStream();
        try (URLClassLoader loader = new URLClassLoader(new URL[] {folder.toUri().toURL()})) {
            System.setOut(new PrintStream(printed, true));
            loader.loadClass("Example").getMethod("main", String[].class).invoke(null, (Object) new String[0]);
        } finally {
            System.setOut(before);
        }
        return printed.toString().lines().toList();
    }

    private static List<String> printedBeside(String example) {
        List<String> printed = new ArrayList<>();
        for (String line : example.split("\n")) {
            Matcher comment = PRINTED.matcher(line);
            if (comment.find()) {
                printed.add(comment.group(1) != null ? comment.group(1) : comment.group(2));
            }
        }
        return printed;
    }
}
