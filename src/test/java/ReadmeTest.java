import java.io.IOException;
import java.lang.reflect.Method;
import java.lang.reflect.Modifier;
import java.net.URL;
import java.net.URLClassLoader;
import java.nio.file.Files;
import java.nio.file.Path;
import java.util.List;
import java.util.regex.Matcher;
import java.util.regex.Pattern;
import javax.tools.ToolProvider;

/** README.md says how to use the class: its Java is compiled and run as one program, and each answer told is due. */
public final class ReadmeTest {
    private static final Pattern TOLD = Pattern.compile("(x\\.\\w+\\([^;]*\\)); +// (-?\\d+)(:.*)?");
    /** So that a changed form of the lines does not leave nothing to look at. */
    private static final int LEAST_CALLS_TOLD = 30;

    private static int calls = 0;
    private static int wrong = 0;

    public static void main(String[] args) throws Exception {
        List<String> lines = Files.readAllLines(Path.of("README.md"));
        everyCallIsNamed(String.join("\n", lines));
        run(program(lines));
        if (calls < LEAST_CALLS_TOLD) {
            fail("only " + calls + " calls are told with an answer");
        }
        System.out.println(calls + " calls of README.md made, " + wrong + " things are not as told");
        if (wrong != 0) {
            System.exit(1);
        }
    }

    /** What the program that is made of README.md calls. */
    public static void due(String call, long got, long want) {
        calls++;
        if (got != want) {
            fail(call + " answered " + got + ", told is " + want);
        }
    }

    private static void fail(String what) {
        wrong++;
        System.out.println("README.md: " + what);
    }

    private static void everyCallIsNamed(String readme) {
        for (Method m : EndsWord.class.getDeclaredMethods()) {
            if (Modifier.isPublic(m.getModifiers()) && !readme.contains("`" + m.getName() + "(")) {
                fail(m.getName() + " is not named");
            }
        }
    }

    private static String program(List<String> lines) {
        StringBuilder body = new StringBuilder();
        boolean inJava = false;
        for (String line : lines) {
            if (line.startsWith("```")) {
                inJava = line.equals("```java");
            } else if (inJava) {
                body.append(looked(line)).append('\n');
            }
        }
        return "public final class ReadmeProgram {\npublic static void run() {\n" + body + "}\n}\n";
    }

    private static String looked(String line) {
        Matcher told = TOLD.matcher(line);
        if (!told.matches()) {
            return line;
        }
        return "ReadmeTest.due(\"" + told.group(1) + "\", " + told.group(1) + ", " + told.group(2) + "L);";
    }

    private static void run(String program) throws IOException, ReflectiveOperationException {
        Path place = Files.createTempDirectory("readme");
        Path source = Files.writeString(place.resolve("ReadmeProgram.java"), program);
        // What is told last is deleted first.
        place.toFile().deleteOnExit();
        source.toFile().deleteOnExit();
        place.resolve("ReadmeProgram.class").toFile().deleteOnExit();
        int compiled = ToolProvider.getSystemJavaCompiler().run(null, null, null, "-cp",
            System.getProperty("java.class.path"), "-d", place.toString(), source.toString());
        if (compiled != 0) {
            fail("its Java does not compile");
            return;
        }
        try (URLClassLoader loader = new URLClassLoader(new URL[] {place.toUri().toURL()})) {
            loader.loadClass("ReadmeProgram").getMethod("run").invoke(null);
        }
    }
}
