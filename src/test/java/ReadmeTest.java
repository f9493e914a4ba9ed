import java.io.IOException;
import java.lang.reflect.InvocationTargetException;
import java.net.URL;
import java.net.URLClassLoader;
import java.nio.file.Files;
import java.nio.file.Path;
import java.util.regex.Matcher;
import java.util.regex.Pattern;
import java.util.stream.Stream;
import javax.tools.ToolProvider;

/** The program on README.md, run as it stands there, answers what stands behind its calls. */
public final class ReadmeTest {
    private static final Pattern BLOCK = Pattern.compile("(?s)```java\n(.*?)```");
    private static final Pattern ANSWERED = Pattern.compile("\\s*(office\\..*);\\s+// (\\S.*)");

    /** What the README shows; a block that is lost shows here. */
    private static final int LEAST_ANSWERS = 55;

    private static int answers = 0;

    public static void main(String[] args) throws Exception {
        String page = Files.readString(Path.of("README.md"));
        run(programOf(page));
        Check.holds("README shows at least " + LEAST_ANSWERS + " answers, not " + answers, answers >= LEAST_ANSWERS);
        everyCallIsTold(page);
        Check.finish("ReadmeTest");
    }

    /** Called by the README's program. */
    public static void answered(String call, Object got, String due) {
        answers++;
        Check.same("README " + call, String.valueOf(got), due);
    }

    /** Called by the README's program. */
    public static void thrown(String call, Runnable deed, String due) {
        answers++;
        Check.same("README " + call, "throws " + Check.thrownBy(deed::run), "throws java.lang." + due);
    }

    private static String programOf(String page) {
        StringBuilder program = new StringBuilder("public final class ReadmeProgram {\n");
        program.append("public static void main(String[] args) {\n");
        Matcher block = BLOCK.matcher(page);
        while (block.find()) {
            block.group(1).lines().forEach(line -> program.append(checked(line)).append('\n'));
        }
        return program.append("}\n}\n").toString();
    }

    private static String checked(String line) {
        Matcher m = ANSWERED.matcher(line);
        if (!m.matches()) {
            return line;
        }
        String call = m.group(1);
        String due = m.group(2);
        if (due.startsWith("throws ")) {
            return "ReadmeTest.thrown(\"" + call + "\", () -> " + call + ", \"" + due.substring(7) + "\");";
        }
        return "ReadmeTest.answered(\"" + call + "\", " + call + ", \"" + due + "\");";
    }

    private static void run(String program) throws Exception {
        Path folder = Files.createTempDirectory("readme");
        try {
            Path file = Files.writeString(folder.resolve("ReadmeProgram.java"), program);
            int code = ToolProvider.getSystemJavaCompiler().run(null, null, null,
                "-cp", System.getProperty("java.class.path"), "-d", folder.toString(), file.toString());
            Check.number("README's program compiles", code, 0);
            if (code == 0) {
                runCompiled(folder);
            }
        } finally {
            remove(folder);
        }
    }

    private static void runCompiled(Path folder) throws Exception {
        URL[] places = {folder.toUri().toURL()};
        try (URLClassLoader loader = new URLClassLoader(places, ReadmeTest.class.getClassLoader())) {
            loader.loadClass("ReadmeProgram").getMethod("main", String[].class).invoke(null, (Object) new String[0]);
        } catch (InvocationTargetException e) {
            Check.same("README's program", "throws " + e.getCause(), "an end");
        }
    }

    private static void remove(Path folder) throws IOException {
        try (Stream<Path> files = Files.list(folder)) {
            for (Path file : files.toList()) {
                Files.delete(file);
            }
        }
        Files.delete(folder);
    }

    private static void everyCallIsTold(String page) {
        for (java.lang.reflect.Method method : AcreOffice.class.getDeclaredMethods()) {
            if (java.lang.reflect.Modifier.isPublic(method.getModifiers())) {
                Check.holds("README shows " + method.getName(), page.contains("office." + method.getName() + "("));
            }
        }
    }
}
