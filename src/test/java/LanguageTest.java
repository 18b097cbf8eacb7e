import java.io.IOException;
import java.nio.file.Files;
import java.nio.file.Path;
import java.util.List;
import java.util.regex.Matcher;
import java.util.regex.Pattern;

/** Looks for what ../shared/LANGUAGE.md rules out, as far as plain patterns can find it. */
public final class LanguageTest {
    private static final String[] RULED_OUT = {
        "->", "::", "\\bcatch\\b", "\\btry\\b", "\\bfinally\\b", "\\bsynchronized\\b", "\\bassert\\b", "\\bpackage\\b",
        "\\bprotected\\b", "\\bnew Random\\b", "\\bThread\\b", "System\\.(?!arraycopy)", "Exact\\(", "static\\s*\\{",
        "\\bequals\\b", "\\bhashCode\\b", "\\btoString\\b", "\\bMap\\b", "\\bSet\\b", "\\bArrays\\.(?!fill|copyOf)",
        "\\bMath\\.(?!abs|max|min)", "\\bLong\\.(?!bitCount)", "\\bInteger\\.", "\"\\s*\\+|\\+\\s*\"", "\\bvar\\b",
        "\\binstanceof\\b", "[^\\x00-\\x7f]",
    };

    private LanguageTest() {
    }

    public static void main(String[] args) throws IOException {
        List<String> lines = Files.readAllLines(Path.of("src/main/java/LetterCuts.java"));
        for (String pattern : RULED_OUT) {
            Pattern p = Pattern.compile(pattern);
            for (int i = 0; i < lines.size(); i++) {
                Matcher m = p.matcher(withoutComment(lines.get(i)));
                Due.same("line " + (i + 1) + ", looked at for " + pattern + ",", m.find(), false);
            }
        }
        checkImports(lines);
        checkConstructors(lines);
        checkMethodLengths(lines);
        Due.finish();
    }

    private static String withoutComment(String line) {
        String text = line.strip();
        if (text.startsWith("/*") || text.startsWith("*")) {
            return "";
        }
        int comment = text.indexOf("//");
        return comment < 0 ? text : text.substring(0, comment);
    }

    private static void checkImports(List<String> lines) {
        for (String line : lines) {
            if (line.startsWith("import")) {
                Due.same(line, line.matches("import java\\.util\\.(Arrays|NoSuchElementException);"), true);
            }
        }
    }

    /** Fields that are static are final, too. */
    private static void checkConstructors(List<String> lines) {
        for (String line : lines) {
            if (line.contains(" static ") && line.endsWith(";")) {
                Due.same(line, line.contains(" static final "), true);
            }
        }
    }

    private static void checkMethodLengths(List<String> lines) {
        int start = -1;
        String end = "";
        for (int i = 0; i < lines.size(); i++) {
            String line = lines.get(i);
            boolean isHead = line.matches("( {4}| {8})(public|private) [^=;]*\\{") && !line.contains(" class ");
            if (isHead) {
                start = i;
                end = line.substring(0, line.length() - line.stripLeading().length()) + "}";
            } else if (start >= 0 && line.equals(end)) {
                Due.same("the method at line " + (start + 1) + " is short", i - start < 60, true);
                start = -1;
            }
        }
    }
}
