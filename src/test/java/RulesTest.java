import java.io.IOException;
import java.nio.file.Files;
import java.nio.file.Path;
import java.util.regex.Matcher;
import java.util.regex.Pattern;

/** Those rules of LANGUAGE.md that can be seen in the text of the class. */
public final class RulesTest {
    private static final Due due = new Due();

    public static void main(String[] args) throws IOException {
        String source = Files.readString(Path.of("src/main/java/EaseCurves.java"));
        String code = source.replaceAll("(?s)/\\*.*?\\*/", "").replaceAll("//[^\n]*", "");
        none("a sign beyond 127", code, "[^\\x00-\\x7f]");
        none("a package or an import", code, "\\b(package|import)\\b");
        none("a lambda or a method reference", code, "->|::");
        none("a try", code, "\\b(try|catch|finally)\\b");
        none("what rule 6 rules out", code, "\\b(synchronized|assert|volatile|native)\\b");
        none("the machine's surroundings", code, "\\b(Thread|Runtime|Random|File|Date)\\b|"
                + "System\\.(?!arraycopy)|Math\\.random|\\w+Exact\\b");
        none("toString and its like", code, "\\b(equals|hashCode|toString)\\b");
        none("an exception beyond rule 6", code, "throw (?!new (IndexOutOfBounds|IllegalArgument"
                + "|IllegalState)Exception\\(\"[a-z ]+\"\\))");
        none("a loop without an end", code, "while \\(true\\)|for \\(;;\\)");
        callsMakeNothing(code);
        due.end();
    }

    /** What calls make is counted, so only constructors make objects, and throws. */
    private static void callsMakeNothing(String code) {
        String calls = code.replaceAll("(?s)\n( +)(public|private) [A-Z]\\w+\\(\\) \\{.*?\n\\1\\}", "");
        due.same("the constructors are seen", code.equals(calls) ? 1 : 0, 0);
        none("a call that makes an object", calls, "(?<!throw )\\bnew\\b|\\.clone\\(|\\.copyOf");
    }

    private static void none(String what, String code, String pattern) {
        Matcher m = Pattern.compile(pattern).matcher(code);
        boolean found = m.find();
        due.same(what + (found ? ": " + m.group() : ""), found ? 1 : 0, 0);
    }
}
