import java.io.File;
import java.io.IOException;
import java.lang.reflect.Method;
import java.lang.reflect.Modifier;
import java.net.URL;
import java.net.URLClassLoader;
import java.nio.file.Files;
import java.nio.file.Path;
import java.util.function.Supplier;
import java.util.regex.Matcher;
import java.util.regex.Pattern;
import javax.tools.ToolProvider;

/**
 * What README.md shows is so: its Java is compiled and run as one program, and each call there answers what stands
 * behind it. Every call of the face is named.
 */
public final class ReadmeTest {
    private static final Path README = Path.of("README.md");
    private static final Pattern BLOCK = Pattern.compile("```java\n(.*?)```", Pattern.DOTALL);
    private static final Pattern SHOWN = Pattern.compile("(x\\.\\w+\\(.*\\)); +// (-?\\d+)\\b.*");
    private static final Check c = new Check("ReadmeTest");
    private static int shown = 0;

    private ReadmeTest() {
    }

    public static void main(String[] args) throws Exception {
        String readme = Files.readString(README);
        namesTheFace(readme);
        String wrong = run(program(readme));
        for (String line : wrong.lines().toList()) c.due(line, 0, 1);
        c.due("some calls are shown", shown > 0 ? 1 : 0, 1);
        c.end();
    }

    private static void namesTheFace(String readme) {
        for (Method method : BarBehind.class.getDeclaredMethods()) {
            if (!Modifier.isPublic(method.getModifiers())) continue;
            boolean named = Pattern.compile("\\b" + method.getName() + "\\(").matcher(readme).find();
            c.due("README.md names " + method.getName() + "()", named ? 1 : 0, 1);
        }
    }

    private static String program(String readme) {
        StringBuilder program = new StringBuilder("""
                public final class ReadmeCalls implements java.util.function.Supplier<String> {
                    private final StringBuilder wrong = new StringBuilder();
                    private void due(String call, long got, long want) {
                        if (got != want) wrong.append(call + " answers " + got + ", README.md says " + want + "\\n");
                    }
                    public String get() {
                """);
        Matcher block = BLOCK.matcher(readme);
        while (block.find()) {
            for (String line : block.group(1).lines().toList()) program.append(held(line)).append('\n');
        }
        return program.append("return wrong.toString(); } }\n").toString();
    }

    /** A call that stands alone in its line must say what it answers. */
    private static String held(String line) {
        if (!line.startsWith("x.")) return line;
        Matcher call = SHOWN.matcher(line);
        c.due("README.md says what is answered: " + line, call.matches() ? 1 : 0, 1);
        if (!call.matches()) return line;
        shown++;
        return "due(\"" + call.group(1).replace("\"", "\\\"") + "\", " + call.group(1) + ", " + call.group(2) + "L);";
    }

    private static String run(String program) throws Exception {
        Path room = Files.createTempDirectory("readme");
        Path source = room.resolve("ReadmeCalls.java");
        try {
            Files.writeString(source, program);
            int failed = ToolProvider.getSystemJavaCompiler().run(null, null, null, "-d", room.toString(), "-cp",
                    System.getProperty("java.class.path"), source.toString());
            if (failed != 0) return "README.md does not compile";
            return answered(room);
        } finally {
            sweep(room);
        }
    }

    private static String answered(Path room) throws Exception {
        try (URLClassLoader loader = new URLClassLoader(new URL[] {room.toUri().toURL()})) {
            Object calls = loader.loadClass("ReadmeCalls").getDeclaredConstructor().newInstance();
            return (String) ((Supplier<?>) calls).get();
        }
    }

    private static void sweep(Path room) throws IOException {
        File[] files = room.toFile().listFiles();
        if (files != null) for (File file : files) Files.delete(file.toPath());
        Files.delete(room);
    }
}
