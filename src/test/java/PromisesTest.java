import java.io.IOException;
import java.nio.file.Files;
import java.nio.file.Path;
import java.util.regex.Matcher;
import java.util.regex.Pattern;
import java.util.stream.Stream;

/** Each promise of the document has tests of its edges, no test names a promise that is not, and each is run. */
public final class PromisesTest {
    private static final int PROMISES = 39;

    private static final String[] EDGES = {"EdgesOfTraverseTest", "EdgesOfFieldsTest", "EdgesOfAreasTest",
        "EdgesOfOrdersTest", "EdgesOfUndoTest", "RefusalsTest"};

    public static void main(String[] args) throws IOException {
        String document = Files.readString(Path.of("../shared/DOC.md"));
        Check.number("promises of the document", count("(?m)^## Promise \\d+:", document), PROMISES);
        StringBuilder edges = new StringBuilder();
        for (String name : EDGES) {
            edges.append(Files.readString(Path.of("src/test/java/" + name + ".java")));
        }
        for (int promise = 1; promise <= PROMISES; promise++) {
            Check.holds("P" + promise + " has a test of its edges", count("\\bP" + promise + "\\b", edges) > 0);
        }
        Matcher named = Pattern.compile("\\bP(\\d+)\\b").matcher(edges);
        while (named.find()) {
            int promise = Integer.parseInt(named.group(1));
            Check.holds("P" + promise + " is a promise", promise >= 1 && promise <= PROMISES);
        }
        eachTestIsRun();
        Check.finish("PromisesTest");
    }

    /** .ci/run takes a file for a test by its name. */
    private static void eachTestIsRun() throws IOException {
        try (Stream<Path> files = Files.walk(Path.of("src/test"))) {
            for (Path file : files.filter(Files::isRegularFile).toList()) {
                boolean isTest = count("public static void main\\(", Files.readString(file)) > 0;
                boolean isRun = file.toString().matches("src/test/java/\\w+Test\\.java");
                Check.same(file + " is run just if it is a test", isRun, isTest);
            }
        }
    }

    private static long count(String pattern, CharSequence text) {
        return Pattern.compile(pattern).matcher(text).results().count();
    }
}
