import java.io.ByteArrayOutputStream;
import java.io.PrintStream;
import java.net.URL;
import java.net.URLClassLoader;
import java.nio.charset.StandardCharsets;
import java.nio.file.Files;
import java.nio.file.Path;
import javax.tools.ToolProvider;

/** The example in README.md is compiled and run: it must print what README.md says. */
public final class ReadmeTest {
    public static void main(String[] args) throws Exception {
        if (args.length == 0) {
            System.out.println("the path of CheeseCellar.java is asked for");
            System.exit(1);
        }
        Path source = Path.of(args[0]).toAbsolutePath();
        String readme = Files.readString(source.resolve("../../../../README.md").normalize());
        String printed = outputOf(block(readme, "java"), source);
        String told = block(readme, "text");
        Check.due("the example printed\n" + printed + "README.md says\n" + told, printed.equals(told), true);
        Check.finish();
    }

    /** The first piece of README.md that is marked as such a language. */
    private static String block(String readme, String language) {
        String mark = "```" + language + "\n";
        int start = readme.indexOf(mark);
        int end = readme.indexOf("```", start + mark.length());
        return start < 0 || end < 0 ? "" : readme.substring(start + mark.length(), end);
    }

    private static String outputOf(String example, Path source) throws Exception {
        Path folder = Files.createTempDirectory("readme");
        Path file = folder.resolve("Example.java");
        Files.writeString(file, example);
        int result = ToolProvider.getSystemJavaCompiler().run(null, null, null, "--release", "17", "-proc:none",
            "-d", folder.toString(), source.toString(), file.toString());
        Check.due("compiling the example", result, 0);
        String printed = result == 0 ? run(folder) : "";
        try (var made = Files.list(folder)) {
            for (Path path : made.toList()) {
                Files.delete(path);
            }
        }
        Files.delete(folder);
        return printed;
    }

    private static String run(Path folder) throws Exception {
        ByteArrayOutputStream bytes = new ByteArrayOutputStream();
        PrintStream out = System.out;
        try (URLClassLoader loader = new URLClassLoader(new URL[] {folder.toUri().toURL()}, null)) {
            System.setOut(new PrintStream(bytes, true, StandardCharsets.UTF_8));
            loader.loadClass("Example").getMethod("main", String[].class).invoke(null, (Object) new String[0]);
        } finally {
            System.setOut(out);
        }
        return bytes.toString(StandardCharsets.UTF_8).replace("\r\n", "\n");
    }
}
