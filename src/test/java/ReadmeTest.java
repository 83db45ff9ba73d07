import java.io.ByteArrayOutputStream;
import java.io.IOException;
import java.io.PrintStream;
import java.net.URL;
import java.net.URLClassLoader;
import java.nio.file.Files;
import java.nio.file.Path;
import java.util.List;
import javax.tools.ToolProvider;

/** The program in README.md can be compiled, and prints what README.md says. */
public final class ReadmeTest {
    private static final Path README = Path.of("README.md");

    private ReadmeTest() {
    }

    public static void main(String[] args) throws IOException, ReflectiveOperationException {
        String readme = Files.readString(README);
        Check check = new Check();
        Path folder = Files.createTempDirectory("readme");
        Path program = folder.resolve("Example.java");
        try {
            Files.writeString(program, block(readme, "java"));
            int failed = ToolProvider.getSystemJavaCompiler().run(null, null, null, "-d", folder.toString(),
                "-cp", System.getProperty("java.class.path"), program.toString());
            check.equal("compiling the program", failed, 0);
            if (failed == 0) {
                check.equal("what the program prints", printed(folder), block(readme, "text"));
            }
        } finally {
            for (Path file : List.of(program, folder.resolve("Example.class"), folder)) {
                Files.deleteIfExists(file);
            }
        }
        check.end();
    }

    /** The lines of the first block of this kind. */
    private static String block(String text, String kind) {
        String opening = "\n```" + kind + "\n";
        int open = text.indexOf(opening);
        int end = text.indexOf("\n```\n", open + opening.length());
        if (open < 0 || end < 0) {
            throw new AssertionError("README.md has no block of " + kind);
        }
        return text.substring(open + opening.length(), end + 1);
    }

    private static String printed(Path folder) throws IOException, ReflectiveOperationException {
        PrintStream before = System.out;
        ByteArrayOutputStream bytes = new ByteArrayOutputStream();
        try (URLClassLoader loader = new URLClassLoader(new URL[] {folder.toUri().toURL()});
                PrintStream caught = new PrintStream(bytes)) {
            System.setOut(caught);
            loader.loadClass("Example").getMethod("main", String[].class).invoke(null, (Object) new String[0]);
        } finally {
            System.setOut(before);
        }
        return bytes.toString().replace(System.lineSeparator(), "\n");
    }
}
