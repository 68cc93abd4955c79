import java.io.IOException;
import java.nio.file.Files;
import java.nio.file.Path;
import java.util.regex.Matcher;
import java.util.regex.Pattern;

/** What of LANGUAGE.md can be seen in the letters of the source; it is run from the project's root. */
public final class LanguageTest {
    private static final Due due = new Due();

    public static void main(String[] args) throws IOException {
        String source = Files.readString(Path.of("src/main/java/TalliedWindows.java"));
        due.holds("the source has signs 1 to 127 alone", source.chars().allMatch(c -> c >= 1 && c <= 127));
        String code = withoutCommentsAndTexts(source);
        lacks(code, "rule 6", "\\b(throw|throws|try|catch|synchronized|assert|equals|hashCode|toString)\\b");
        lacks(code, "rule 2", "->|::");
        lacks(code, "rule 4", "\\b(System\\.(?!arraycopy)\\w+|Object|Thread|Class|HashMap|Map|Set|Optional|Stream)\\b");
        lacks(code, "rule 4", "\\w+Exact\\b");
        lacks(code, "rule 5", "\\bstatic\\s*\\{");
        lacks(code, "no package", "\\bpackage\\b");
        lacks(code, "rule 9", "while\\s*\\(\\s*true\\s*\\)|for\\s*\\(\\s*;");
        Matcher imports = Pattern.compile("import ([^;]+);").matcher(code);
        while (imports.find()) {
            due.holds("import of " + imports.group(1), imports.group(1).matches("java\\.util\\.(Arrays|ArrayList|List|Iterator)"));
        }
        checkParameters(code);
        checkMethodLengths(code);
        due.end();
    }

    private static String withoutCommentsAndTexts(String source) {
        return source.replaceAll("(?s)/\\*.*?\\*/", " ").replaceAll("//[^\n]*", " ").replaceAll("'(\\\\.|[^'])'|\"[^\"]*\"", "0");
    }

    private static void lacks(String code, String rule, String pattern) {
        Matcher found = Pattern.compile(pattern).matcher(code);
        due.holds(rule + ": " + pattern, !found.find());
    }

    private static void checkParameters(String code) {
        Matcher heads = Pattern.compile("\\w+\\(([^()]*)\\)\\s*\\{").matcher(code);
        while (heads.find()) {
            due.holds("rule 11, seven parameters: " + heads.group(), heads.group(1).split(",").length <= 7);
        }
    }

    private static void checkMethodLengths(String code) {
        Matcher bodies = Pattern.compile("(?m)^( {8}| {4})(?!private static final class)[\\w ]+\\([^()]*\\) \\{\\n(?s:(.*?))^\\1\\}").matcher(code);
        int seen = 0;
        while (bodies.find()) {
            seen++;
            long lines = bodies.group(2).lines().count();
            due.holds("rule 11, sixty lines: " + bodies.group().lines().findFirst().orElse(""), lines <= 60);
        }
        due.holds("the methods were found", seen > 26);
    }
}
