import java.io.ByteArrayOutputStream;
import java.io.IOException;
import java.io.PrintStream;
import java.lang.reflect.Method;
import java.lang.reflect.Modifier;
import java.net.URL;
import java.net.URLClassLoader;
import java.nio.charset.StandardCharsets;
import java.nio.file.Files;
import java.nio.file.Path;
import java.util.List;
import javax.tools.JavaCompiler;
import javax.tools.ToolProvider;

/** README.md must not tell what the class does not do: its example is run, and each call must stand there. */
public final class ReadmeTest {
    private static final List<String> FILES = List.of("Example.java", "Example.class");

    private ReadmeTest() {
    }

    public static void main(String[] args) throws Exception {
        String readme = Files.readString(Path.of("README.md"));
        everyCallIsExplained(readme);
        String printed = run(block(readme, "java"));
        String promised = block(readme, "text");
        Check.yes("the example of README.md prints\n" + printed + "and README.md says\n" + promised,
            printed.equals(promised));
        Check.yes("README.md says how the tests are run", block(readme, "").equals(".ci/run\n"));
        Check.finish();
    }

    private static void everyCallIsExplained(String readme) {
        for (Method method : AreaRouters.class.getDeclaredMethods()) {
            if (Modifier.isPublic(method.getModifiers())) {
                Check.yes(method.getName() + " is explained in README.md",
                    readme.contains("| `" + method.getName() + "("));
            }
        }
    }

    /** The text of the first block of a kind; empty when there is none. */
    private static String block(String readme, String kind) {
        StringBuilder text = new StringBuilder();
        boolean inside = false;
        boolean wanted = false;
        for (String line : readme.lines().toList()) {
            if (line.startsWith("```")) {
                if (wanted) {
                    return text.toString();
                }
                inside = !inside;
                wanted = inside && line.equals("```" + kind);
            } else if (wanted) {
                text.append(line).append('\n');
            }
        }
        return "";
    }

    private static String run(String program) throws Exception {
        Path folder = Files.createTempDirectory("readme");
        PrintStream usual = System.out;
        ByteArrayOutputStream printed = new ByteArrayOutputStream();
        try (URLClassLoader loader = new URLClassLoader(new URL[] {folder.toUri().toURL()})) {
            Path source = folder.resolve("Example.java");
            Files.writeString(source, program);
            JavaCompiler compiler = ToolProvider.getSystemJavaCompiler();
            int failed = compiler.run(null, null, null, "-Xlint:all", "-Werror", "-cp",
                System.getProperty("java.class.path"), "-d", folder.toString(), source.toString());
            if (failed != 0) {
                return "nothing, as it does not compile\n";
            }
            System.setOut(new PrintStream(printed, true, StandardCharsets.UTF_8));
            loader.loadClass("Example").getMethod("main", String[].class).invoke(null, (Object) new String[0]);
        } finally {
            System.setOut(usual);
            remove(folder);
        }
        return printed.toString(StandardCharsets.UTF_8).replace("\r\n", "\n");
    }

    private static void remove(Path folder) throws IOException {
        for (String file : FILES) {
            Files.deleteIfExists(folder.resolve(file));
        }
        Files.deleteIfExists(folder);
    }
}
