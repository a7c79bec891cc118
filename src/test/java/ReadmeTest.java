import java.io.IOException;
import java.net.URL;
import java.net.URLClassLoader;
import java.nio.file.Files;
import java.nio.file.Path;
import java.util.function.BiConsumer;
import java.util.regex.Matcher;
import java.util.regex.Pattern;
import javax.tools.ToolProvider;

/** The example of README.md answers what it says behind each call. */
public final class ReadmeTest {
    private static final Pattern CALL = Pattern.compile("(.*);\\s*// (-?\\d+)\\b.*");
    private static final Path FOLDER = Path.of("build", "readme");

    public static void main(String[] args) throws IOException, ReflectiveOperationException {
        StringBuilder source = new StringBuilder("public final class ReadmeExample {\n"
                + "public static void run(java.util.function.BiConsumer<String, int[]> due) {\n");
        boolean inside = false;
        for (String line : Files.readAllLines(Path.of("README.md"))) {
            if (line.startsWith("```")) {
                inside = line.equals("```java");
            } else if (inside) {
                Matcher call = CALL.matcher(line);
                source.append(call.matches()
                        ? "due.accept(\"" + call.group(1) + "\", new int[] {" + call.group(1) + ", " + call.group(2) + "});\n"
                        : line + "\n");
            }
        }
        run(source.append("}\n}\n").toString());
    }

    private static void run(String source) throws IOException, ReflectiveOperationException {
        Path file = FOLDER.resolve("ReadmeExample.java");
        Files.createDirectories(FOLDER);
        Files.writeString(file, source);
        int failed = ToolProvider.getSystemJavaCompiler().run(null, null, null, "-cp", System.getProperty("java.class.path"),
                "-d", FOLDER.toString(), file.toString());
        if (failed != 0) {
            System.out.println("ReadmeTest: the example is no Java");
            System.exit(1);
        }
        Answers a = new Answers();
        BiConsumer<String, int[]> due = (call, both) -> a.due(call, both[0], both[1]);
        try (URLClassLoader loader = new URLClassLoader(new URL[] {FOLDER.toUri().toURL()})) {
            loader.loadClass("ReadmeExample").getMethod("run", BiConsumer.class).invoke(null, due);
        }
        a.finish("ReadmeTest");
    }
}
