import java.io.IOException;
import java.io.StringWriter;
import java.net.URI;
import java.net.URL;
import java.net.URLClassLoader;
import java.nio.file.DirectoryStream;
import java.nio.file.Files;
import java.nio.file.Path;
import java.util.ArrayList;
import java.util.HashSet;
import java.util.List;
import java.util.Set;
import java.util.function.Supplier;
import java.util.regex.Matcher;
import java.util.regex.Pattern;
import javax.tools.JavaCompiler;
import javax.tools.JavaFileObject;
import javax.tools.SimpleJavaFileObject;
import javax.tools.ToolProvider;

/** What README.md shows as calls and answers is what the class answers; it is run from the project's root. */
public final class ReadmeTest {
    private static final Pattern BLOCK = Pattern.compile("(?s)```java\n(.*?)```");
    private static final Pattern CALL = Pattern.compile("(?:int (\\w+) = )?(t\\.(\\w+)\\(.*\\));\\s+// (-?\\d+|[A-Z]+)(:? .*|)");
    private static final Pattern TELLS_NUMBER = Pattern.compile(".*\\((-\\d+)\\)");
    private static final Path TESTS = Path.of("src/test/java");

    private static final Due due = new Due();
    private static final List<String> calls = new ArrayList<>();
    private static final List<Integer> answers = new ArrayList<>();
    private static final Set<String> namesShown = new HashSet<>();

    public static void main(String[] args) throws Exception {
        String page = Files.readString(Path.of("README.md"));
        List<Integer> got = run(programOf(page));
        due.is("calls that were answered", got.size(), calls.size());
        for (int i = 0; i < got.size() && i < calls.size(); i++) {
            due.is("README.md: " + calls.get(i), got.get(i), answers.get(i));
        }
        showsEveryCall();
        namesEveryTest(page);
        due.end();
    }

    /** The blocks of the page, one behind the other, as a class that gathers the answers. */
    private static String programOf(String page) {
        StringBuilder program = new StringBuilder("public final class ReadmeCalls implements java.util.function.Supplier<java.util.List<Integer>> {\n"
            + "public java.util.List<Integer> get() {\njava.util.List<Integer> got = new java.util.ArrayList<>();\n");
        Matcher block = BLOCK.matcher(page);
        while (block.find()) {
            block.group(1).lines().forEach(line -> program.append(gathering(line)).append('\n'));
        }
        return program.append("return got;\n}\n}\n").toString();
    }

    private static String gathering(String line) {
        Matcher call = CALL.matcher(line);
        if (!call.matches()) {
            // a call in a loop is indented and has no answer of its own
            due.holds("README.md tells the answer of " + line, !line.matches("(int \\w+ = )?t\\..*"));
            return line;
        }
        calls.add(call.group(2));
        answers.add(numberOf(call.group(4)));
        namesShown.add(call.group(3));
        Matcher number = TELLS_NUMBER.matcher(call.group(5));
        if (number.matches()) {
            due.is("README.md: " + call.group(4), numberOf(call.group(4)), Integer.parseInt(number.group(1)));
        }
        String variable = call.group(1);
        return variable == null ? "got.add(" + call.group(2) + ");"
            : "int " + variable + " = " + call.group(2) + "; got.add(" + variable + ");";
    }

    private static int numberOf(String answer) {
        switch (answer) {
            case "NONE": return TalliedWindows.NONE;
            case "UNKNOWN": return TalliedWindows.UNKNOWN;
            case "OUTSIDE": return TalliedWindows.OUTSIDE;
            case "NOT": return TalliedWindows.NOT;
            case "FULL": return TalliedWindows.FULL;
            default: return Integer.parseInt(answer);
        }
    }

    private static List<Integer> run(String program) throws Exception {
        JavaCompiler compiler = ToolProvider.getSystemJavaCompiler();
        Path out = Files.createTempDirectory("readme");
        try {
            StringWriter words = new StringWriter();
            List<String> options = List.of("-proc:none", "-cp", System.getProperty("java.class.path"), "-d", out.toString());
            boolean compiled = compiler.getTask(words, null, null, options, null, List.of(sourceOf(program))).call();
            due.holds("README.md compiles: " + words, compiled);
            return compiled ? gathered(out) : List.of();
        } finally {
            emptyAndDelete(out);
        }
    }

    private static JavaFileObject sourceOf(String program) {
        return new SimpleJavaFileObject(URI.create("string:///ReadmeCalls.java"), JavaFileObject.Kind.SOURCE) {
            @Override
            public CharSequence getCharContent(boolean ignoreErrors) {
                return program;
            }
        };
    }

    @SuppressWarnings("unchecked")
    private static List<Integer> gathered(Path out) throws Exception {
        try (URLClassLoader loader = new URLClassLoader(new URL[] {out.toUri().toURL()})) {
            Object made = loader.loadClass("ReadmeCalls").getConstructor().newInstance();
            return ((Supplier<List<Integer>>) made).get();
        }
    }

    private static void emptyAndDelete(Path folder) throws IOException {
        try (DirectoryStream<Path> files = Files.newDirectoryStream(folder)) {
            for (Path file : files) {
                Files.delete(file);
            }
        }
        Files.delete(folder);
    }

    private static void showsEveryCall() {
        for (var method : TalliedWindows.class.getDeclaredMethods()) {
            if (java.lang.reflect.Modifier.isPublic(method.getModifiers())) {
                due.holds("README.md shows " + method.getName(), namesShown.contains(method.getName()));
            }
        }
    }

    private static void namesEveryTest(String page) throws IOException {
        Set<String> named = new HashSet<>();
        Matcher row = Pattern.compile("(?m)^\\| ((?:\\w+Test(?:, )?)+) \\|").matcher(page);
        while (row.find()) {
            named.addAll(List.of(row.group(1).split(", ")));
        }
        for (String name : named) {
            due.holds(name + ", which README.md names, is there", Files.exists(TESTS.resolve(name + ".java")));
        }
        try (DirectoryStream<Path> files = Files.newDirectoryStream(TESTS, "*Test.java")) {
            for (Path file : files) {
                String name = file.getFileName().toString().replace(".java", "");
                due.holds("README.md names " + name, named.contains(name));
            }
        }
    }
}
