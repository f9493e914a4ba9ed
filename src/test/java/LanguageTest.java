import com.sun.management.ThreadMXBean;
import java.io.IOException;
import java.lang.management.ManagementFactory;
import java.nio.file.Files;
import java.nio.file.Path;
import java.util.List;

/** The rules of LANGUAGE.md that a look at the source or at the memory can tell. */
public final class LanguageTest {
    private static final String[] RULED_OUT = {
        "\\bpackage\\b", "\\bprotected\\b", "->", "::", "\\bfinally\\b", "\\bsynchronized\\b", "\\bassert\\b",
        "\\w+Exact\\b", "\"\\s*\\+", "\\+\\s*\"", "\\bSystem\\.(?!arraycopy\\b)", "\\bstatic\\s*\\{",
        "\\bRuntimeException\\s+\\w+\\s*\\)", "\\bThrowable\\b", "\\bThread\\b", "\\bcatch\\s*\\(\\s*Exception\\b",
    };

    public static void main(String[] args) throws IOException {
        String source = Files.readString(Path.of("src/main/java/AcreOffice.java"));
        ruledOut(withoutComments(source));
        throwsOnlyWrittenOut(withoutComments(source));
        shortMethods(source.lines().toList());
        onlySmallSigns(source);
        memory();
        Check.finish("LanguageTest");
    }

    private static String withoutComments(String source) {
        return source.replaceAll("(?s)/\\*.*?\\*/", "").replaceAll("//[^\n]*", "");
    }

    private static void ruledOut(String code) {
        for (String word : RULED_OUT) {
            Check.fails("ruled out: " + word, java.util.regex.Pattern.compile(word).matcher(code).find());
        }
    }

    private static void throwsOnlyWrittenOut(String code) {
        String rest = code.replaceAll(
            "throw new (IllegalArgument|IllegalState|IndexOutOfBounds)Exception\\(\"[ -~]*?\"\\);", "");
        Check.fails("a throw of another form", rest.matches("(?s).*\\bthrow\\b.*"));
    }

    private static void shortMethods(List<String> lines) {
        int begun = 0;
        for (int i = 0; i < lines.size(); i++) {
            if (lines.get(i).matches("\\s+(private |public )?.*\\) .*\\{") && !lines.get(i).contains("if (")
                    && !lines.get(i).contains("for (") && !lines.get(i).contains("switch (")) {
                begun = i;
            }
            if (lines.get(i).matches(" {4}(    )?}")) {
                Check.holds("sixty lines at most, line " + (begun + 1),
                    i - begun < 60 || lines.get(i).matches(" {4}}"));
            }
        }
    }

    private static void onlySmallSigns(String source) {
        Check.holds("signs 1 to 127", source.chars().allMatch(c -> c >= 1 && c <= 127));
    }

    /** A run makes its rows with the office, and next to nothing with its calls. */
    private static void memory() {
        callFiveHundredTimes(new AcreOffice());
        allocated();
        long before = allocated();
        AcreOffice x = new AcreOffice();
        long made = allocated() - before;
        Check.holds("an office is small: " + made + " bytes", made < 65536);
        before = allocated();
        callFiveHundredTimes(x);
        long more = allocated() - before;
        Check.holds("its calls make nothing: " + more + " bytes", more < 65536);
    }

    private static void callFiveHundredTimes(AcreOffice x) {
        String text = "e9n0l9;e0n9l9;w9s9l9;k;e1n1l1;b;g0;e1n1l1;b;e1n1l1;b;e1n1l1;b;e1n1l1;b;e1n1l1;b";
        for (int i = 0; i < text.length(); i++) {
            x.type(text.charAt(i));
        }
        for (int k = 0; k < 60; k++) {
            x.carryOut();
            x.impossibleOrder();
            x.textError();
            x.undo();
            x.takeSnapshot();
            x.restoreSnapshot();
        }
    }

    private static long allocated() {
        ThreadMXBean bean = (ThreadMXBean) ManagementFactory.getThreadMXBean();
        return bean.getThreadAllocatedBytes(Thread.currentThread().getId());
    }
}
