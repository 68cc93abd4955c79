import java.lang.reflect.Constructor;
import java.lang.reflect.Field;
import java.lang.reflect.Method;
import java.lang.reflect.Modifier;
import java.util.Arrays;
import java.util.Set;
import java.util.TreeSet;

/** The public face: what the document tells and nothing else (LANGUAGE.md, rule 1). */
public final class FaceTest {
    private static final String[] METHODS = {
        "feed int", "picture", "fault", "told int", "at int int int", "tally int int int int int",
        "filter int int int int int", "drop int", "fill int", "would int int int int", "bins int", "spikes int int",
        "dot int int int", "mask int int boolean", "turn int", "filtered int", "all", "until int int", "noise int",
        "undo int", "write int int int", "tear", "seed int", "keep int", "goBack int", "against int"};

    private static final Due due = new Due();

    public static void main(String[] args) {
        due.is("modifiers of the class", TalliedWindows.class.getModifiers(), Modifier.PUBLIC | Modifier.FINAL);
        checkMethods();
        checkConstants();
        checkConstructors();
        checkClassesInside();
        due.end();
    }

    private static void checkMethods() {
        Set<String> open = new TreeSet<>();
        Set<String> openNames = new TreeSet<>();
        for (Method m : TalliedWindows.class.getDeclaredMethods()) {
            if (!Modifier.isPrivate(m.getModifiers())) {
                due.is("modifiers of " + m, m.getModifiers(), Modifier.PUBLIC);
                due.holds(m + " answers an int", m.getReturnType() == int.class);
                open.add(told(m));
                openNames.add(m.getName());
            }
        }
        Set<String> wanted = new TreeSet<>(Arrays.asList(METHODS));
        due.holds("the methods are " + wanted + ", not " + open, open.equals(wanted));
        for (Class<?> c : allClasses()) {
            for (Method m : c.getDeclaredMethods()) {
                boolean isFace = c == TalliedWindows.class && Modifier.isPublic(m.getModifiers());
                due.holds(m + " bears no public name", isFace || !openNames.contains(m.getName()));
            }
        }
    }

    private static String told(Method m) {
        StringBuilder all = new StringBuilder(m.getName());
        for (Class<?> p : m.getParameterTypes()) {
            all.append(' ').append(p.getName());
        }
        return all.toString();
    }

    private static void checkConstants() {
        due.is("NONE", TalliedWindows.NONE, -1);
        due.is("UNKNOWN", TalliedWindows.UNKNOWN, -1000000001);
        due.is("OUTSIDE", TalliedWindows.OUTSIDE, -1000000002);
        due.is("NOT", TalliedWindows.NOT, -1000000003);
        due.is("FULL", TalliedWindows.FULL, -1000000004);
        int open = 0;
        for (Class<?> c : allClasses()) {
            for (Field f : c.getDeclaredFields()) {
                due.holds(f + " is no static that can change",
                    !Modifier.isStatic(f.getModifiers()) || Modifier.isFinal(f.getModifiers()));
                open += c == TalliedWindows.class && !Modifier.isPrivate(f.getModifiers()) ? 1 : 0;
            }
        }
        due.is("fields that are not private", open, 5);
    }

    private static void checkConstructors() {
        Constructor<?>[] all = TalliedWindows.class.getDeclaredConstructors();
        due.is("constructors", all.length, 1);
        due.is("modifiers of the constructor", all[0].getModifiers(), Modifier.PUBLIC);
        due.is("parameters of the constructor", all[0].getParameterCount(), 0);
    }

    private static void checkClassesInside() {
        due.holds("at most twelve classes", allClasses().length <= 12);
        for (Class<?> c : TalliedWindows.class.getDeclaredClasses()) {
            due.holds(c + " is static", Modifier.isStatic(c.getModifiers()));
            due.holds(c + " is not open", !Modifier.isPublic(c.getModifiers()) && !Modifier.isProtected(c.getModifiers()));
        }
    }

    private static Class<?>[] allClasses() {
        Class<?>[] inside = TalliedWindows.class.getDeclaredClasses();
        Class<?>[] all = Arrays.copyOf(inside, inside.length + 1);
        all[inside.length] = TalliedWindows.class;
        return all;
    }
}
