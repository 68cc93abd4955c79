import java.io.IOException;
import java.lang.reflect.Constructor;
import java.lang.reflect.Field;
import java.lang.reflect.Method;
import java.lang.reflect.Modifier;
import java.nio.file.Files;
import java.nio.file.Path;
import java.util.Arrays;
import java.util.List;
import java.util.Set;
import java.util.TreeSet;
import java.util.regex.Matcher;
import java.util.regex.Pattern;

/** The public face: what the document tells and nothing else (LANGUAGE.md, rule 1). */
public final class FaceTest {
    private static final String[] METHODS = {
        "feed int", "picture", "fault", "told int", "at int int int", "tally int int int int int",
        "filter int int int int int", "drop int", "fill int", "would int int int int", "bins int", "spikes int int",
        "dot int int int", "mask int int boolean", "turn int", "filtered int", "all", "until int int", "noise int",
        "undo int", "write int int int", "tear", "seed int", "keep int", "goBack int", "against int"};

    private static final Due due = new Due();

    public static void main(String[] args) throws IOException {
        due.is("modifiers of the class", TalliedWindows.class.getModifiers(), Modifier.PUBLIC | Modifier.FINAL);
        checkMethods();
        checkConstants();
        checkConstructors();
        checkClassesInside();
        String document = Files.readString(Path.of("../shared/DOC.md"));
        String source = Files.readString(Path.of("src/main/java/TalliedWindows.java"));
        checkWords(document, source);
        checkHeadings(document, source);
        due.end();
    }

    /** Each line of the document's face stands in the source, with a body where the document has none, in the same order. */
    private static void checkWords(String document, String source) {
        Matcher face = Pattern.compile("(?s)```java\n(.*?)\n```").matcher(document);
        due.holds("the document has a face", face.find());
        int from = 0;
        for (String line : face.group(1).split("\n")) {
            String wanted = line.replaceAll("\\);$", ") {");
            int place = line.equals("}") ? from : source.indexOf(wanted + "\n", from);
            due.holds("the source says, in the document's order: " + wanted, place >= 0);
            from = Math.max(from, place);
        }
    }

    /** "Ahead of the calls .. the interface says": the heading stands ahead of just these calls. */
    private static void checkHeadings(String document, String source) {
        Matcher told = Pattern.compile("Ahead of the calls (.*) the interface says: (---- .*)\\.").matcher(document);
        int headings = 0;
        while (told.find()) {
            headings++;
            String[] parts = source.split(Pattern.quote("    // " + told.group(2) + "\n"), -1);
            due.is("how often the source says " + told.group(2), parts.length - 1, 1);
            String behind = parts[parts.length - 1].split("    // ---- ", 2)[0];
            List<String> calls = Pattern.compile("public int (\\w+)\\(").matcher(behind).results().map(m -> m.group(1)).toList();
            due.reads("calls behind " + told.group(2), calls.toString(), "[" + told.group(1).replace("`", "") + "]");
        }
        due.is("headings", headings, 5);
    }

    private static void checkMethods() {
        Set<String> open = new TreeSet<>();
        Set<String> openNames = new TreeSet<>();
        for (Method m : TalliedWindows.class.getDeclaredMethods()) {
            if (!Modifier.isPrivate(m.getModifiers())) {
                due.is("modifiers of " + m, m.getModifiers(), Modifier.PUBLIC);
                due.holds(m + " answers an int", m.getReturnType() == int.class);
                open.add(told(m));
                openNames.add(m.getName());
            }
        }
        Set<String> wanted = new TreeSet<>(Arrays.asList(METHODS));
        due.holds("the methods are " + wanted + ", not " + open, open.equals(wanted));
        for (Class<?> c : allClasses()) {
            for (Method m : c.getDeclaredMethods()) {
                boolean isFace = c == TalliedWindows.class && Modifier.isPublic(m.getModifiers());
                due.holds(m + " bears no public name", isFace || !openNames.contains(m.getName()));
            }
        }
    }

    private static String told(Method m) {
        StringBuilder all = new StringBuilder(m.getName());
        for (Class<?> p : m.getParameterTypes()) {
            all.append(' ').append(p.getName());
        }
        return all.toString();
    }

    private static void checkConstants() {
        due.is("NONE", TalliedWindows.NONE, -1);
        due.is("UNKNOWN", TalliedWindows.UNKNOWN, -1000000001);
        due.is("OUTSIDE", TalliedWindows.OUTSIDE, -1000000002);
        due.is("NOT", TalliedWindows.NOT, -1000000003);
        due.is("FULL", TalliedWindows.FULL, -1000000004);
        int open = 0;
        for (Class<?> c : allClasses()) {
            for (Field f : c.getDeclaredFields()) {
                due.holds(f + " is no static that can change",
                    !Modifier.isStatic(f.getModifiers()) || Modifier.isFinal(f.getModifiers()));
                open += c == TalliedWindows.class && !Modifier.isPrivate(f.getModifiers()) ? 1 : 0;
            }
        }
        due.is("fields that are not private", open, 5);
    }

    private static void checkConstructors() {
        Constructor<?>[] all = TalliedWindows.class.getDeclaredConstructors();
        due.is("constructors", all.length, 1);
        due.is("modifiers of the constructor", all[0].getModifiers(), Modifier.PUBLIC);
        due.is("parameters of the constructor", all[0].getParameterCount(), 0);
    }

    private static void checkClassesInside() {
        due.holds("at most twelve classes", allClasses().length <= 12);
        for (Class<?> c : TalliedWindows.class.getDeclaredClasses()) {
            due.holds(c + " is static", Modifier.isStatic(c.getModifiers()));
            due.holds(c + " is not open", !Modifier.isPublic(c.getModifiers()) && !Modifier.isProtected(c.getModifiers()));
        }
    }

    private static Class<?>[] allClasses() {
        Class<?>[] inside = TalliedWindows.class.getDeclaredClasses();
        Class<?>[] all = Arrays.copyOf(inside, inside.length + 1);
        all[inside.length] = TalliedWindows.class;
        return all;
    }
}
