import java.io.ByteArrayOutputStream;
import java.io.PrintStream;
import java.net.URL;
import java.net.URLClassLoader;
import java.nio.file.Files;
import java.nio.file.Path;
import java.util.ArrayList;
import java.util.List;
import java.util.regex.Matcher;
import java.util.regex.Pattern;
import javax.tools.ToolProvider;

/** The program in README.md compiles, and prints what it says behind "// prints". It is run from the project's directory. */
public final class ReadmeTest {

    private static final Path MAIN = Path.of("src/main/java/Blankform.java");

    private ReadmeTest() {
    }

    public static void main(String[] args) throws Exception {
        String code = programOf(Files.readString(Path.of("README.md")));
        Path directory = Files.createTempDirectory("readme");
        try {
            Path file = Files.writeString(directory.resolve("Hello.java"), code);
            int failed = ToolProvider.getSystemJavaCompiler().run(null, null, null,
                    "-d", directory.toString(), MAIN.toString(), file.toString());
            Check.due("compiling the program of README.md", failed, 0);
            if (failed == 0) {
                Check.due("what it prints", printedBy(directory), promisedBy(code));
            }
        } finally {
            remove(directory);
        }
        Check.end("ReadmeTest");
    }

    private static String programOf(String readme) {
        Matcher program = Pattern.compile("(?s)```java\n(.*?)```").matcher(readme);
        Check.due("a program is in README.md", program.find(), true);
        return program.group(1);
    }

    /** What stands behind "// prints", up to " (", where what it means is told. */
    private static List<String> promisedBy(String code) {
        List<String> promised = new ArrayList<>();
        for (String line : code.split("\n")) {
            if (line.contains("System.out.println(")) {
                Matcher due = Pattern.compile("// prints (.*?)( \\(.*)?$").matcher(line);
                Check.due("it is told what this prints: " + line, due.find(), true);
                promised.add(due.group(1));
            }
        }
        Check.due("something is printed", promised.isEmpty(), false);
        return promised;
    }

    private static List<String> printedBy(Path directory) throws Exception {
        PrintStream out = System.out;
        ByteArrayOutputStream printed = new ByteArrayOutputStream();
        ClassLoader none = ClassLoader.getPlatformClassLoader();
        try (URLClassLoader classes = new URLClassLoader(new URL[] {directory.toUri().toURL()}, none)) {
            System.setOut(new PrintStream(printed, true));
            classes.loadClass("Hello").getMethod("main", String[].class).invoke(null, (Object) new String[0]);
        } finally {
            System.setOut(out);
        }
        return printed.toString().lines().toList();
    }

    private static void remove(Path directory) throws Exception {
        try (var files = Files.list(directory)) {
            for (Path file : files.toList()) {
                Files.delete(file);
            }
        }
        Files.delete(directory);
    }
}
