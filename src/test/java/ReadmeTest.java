import java.io.IOException;
import java.io.UncheckedIOException;
import java.lang.reflect.Method;
import java.lang.reflect.Modifier;
import java.net.URL;
import java.net.URLClassLoader;
import java.nio.file.Files;
import java.nio.file.Path;
import java.util.regex.Matcher;
import java.util.regex.Pattern;
import javax.tools.ToolProvider;

/** README.md's program, compiled as it stands there: each call answers what is told behind it, and no call is left out. */
public final class ReadmeTest {
    private static final Pattern CALL = Pattern.compile("(x\\.\\w+\\(.*\\)); +// (-?\\d+|[A-Z]+)(:.*)?");
    private static final Path DIRECTORY = Path.of("build", "readme");
    private static final Checks CHECKS = new Checks();

    public static void main(String[] args) throws IOException {
        String readme = Files.readString(Path.of("README.md"));
        int start = readme.indexOf("```java\n") + "```java\n".length();
        String program = readme.substring(start, readme.indexOf("```\n", start));
        for (Method m : LeeVanes.class.getDeclaredMethods()) {
            if (Modifier.isPublic(m.getModifiers())) {
                CHECKS.due("is there a call of " + m.getName(), program.contains("x." + m.getName() + "(") ? 1 : 0, 1);
            }
        }
        run(source(program));
        CHECKS.end();
    }

    /** Public, for the program is another loader's class. */
    public static void due(String call, long got, long want) {
        CHECKS.due(call, got, want);
    }

    private static String source(String program) {
        StringBuilder source = new StringBuilder("public final class Readme {\npublic static void main(String[] args) {\n");
        for (String line : program.split("\n")) {
            Matcher m = CALL.matcher(line);
            if (m.matches()) {
                String want = Character.isUpperCase(m.group(2).charAt(0)) ? "LeeVanes." + m.group(2) : m.group(2);
                source.append("ReadmeTest.due(\"" + m.group(1) + "\", " + m.group(1) + ", " + want + ");\n");
            } else {
                CHECKS.due("a call without what it answers: " + line, line.startsWith("x.") ? 1 : 0, 0);
                source.append(line).append('\n');
            }
        }
        return source.append("}\n}\n").toString();
    }

    private static void run(String source) throws IOException {
        Files.createDirectories(DIRECTORY);
        Path file = DIRECTORY.resolve("Readme.java");
        Files.writeString(file, source);
        String path = System.getProperty("java.class.path");
        int exit = ToolProvider.getSystemJavaCompiler().run(null, null, null, "-cp", path, "-d", DIRECTORY.toString(),
            file.toString());
        CHECKS.due("javac on README.md's program", exit, 0);
        if (exit != 0) {
            return;
        }
        try (URLClassLoader loader = new URLClassLoader(new URL[] {DIRECTORY.toUri().toURL()}, ReadmeTest.class.getClassLoader())) {
            loader.loadClass("Readme").getMethod("main", String[].class).invoke(null, (Object) new String[0]);
        } catch (ReflectiveOperationException e) {
            throw new UncheckedIOException(new IOException(e));
        }
    }
}
