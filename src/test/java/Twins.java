import java.util.LinkedHashMap;
import java.util.Map;
import java.util.function.Consumer;
import java.util.function.Function;
import java.util.function.ToIntFunction;

/**
 * Objects with the same past, of which one has had a call more: what is refused, or only asked, must leave no trace.
 * Some of what an object holds shows itself only by calls that change it, so each look has a pair of its own, and no
 * object comes to 512 calls.
 */
final class Twins {
    private static final Map<String, Function<TalliedWindows, String>> LOOKS = new LinkedHashMap<>();

    static {
        LOOKS.put("what is told", Twins::told);
        LOOKS.put("the dots", Due::shown);
        LOOKS.put("the filters", Twins::filters);
        LOOKS.put("the seed", x -> "" + x.seed(0));
        LOOKS.put("the text", Twins::text);
        LOOKS.put("the book", Twins::book);
        LOOKS.put("what can be undone", Twins::past);
        LOOKS.put("image 0", x -> image(x, 0));
        LOOKS.put("image 1", x -> image(x, 1));
    }

    private final Due due;
    private final String state;
    private final Consumer<TalliedWindows> past;

    Twins(Due due, String state, Consumer<TalliedWindows> past) {
        this.due = due;
        this.state = state;
        this.past = past;
    }

    /** The call has the answer that is due, and nothing is otherwise by it. */
    void leaves(String call, int answer, ToIntFunction<TalliedWindows> further) {
        TalliedWindows first = made();
        due.is(state + ": " + call, further.applyAsInt(first), answer);
        due.is(state + ": " + call + " again", further.applyAsInt(first), answer);
        for (Map.Entry<String, Function<TalliedWindows, String>> look : LOOKS.entrySet()) {
            TalliedWindows one = made();
            TalliedWindows other = made();
            further.applyAsInt(one);
            due.reads(state + ": " + look.getKey() + " behind " + call, look.getValue().apply(one), look.getValue().apply(other));
        }
    }

    void isUnknown(String call, ToIntFunction<TalliedWindows> refused) {
        leaves(call, TalliedWindows.UNKNOWN, refused);
    }

    void isOutside(String call, ToIntFunction<TalliedWindows> refused) {
        leaves(call, TalliedWindows.OUTSIDE, refused);
    }

    void isNot(String call, ToIntFunction<TalliedWindows> refused) {
        leaves(call, TalliedWindows.NOT, refused);
    }

    void isFull(String call, ToIntFunction<TalliedWindows> refused) {
        leaves(call, TalliedWindows.FULL, refused);
    }

    private TalliedWindows made() {
        TalliedWindows x = new TalliedWindows();
        past.accept(x);
        return x;
    }

    private static String told(TalliedWindows x) {
        StringBuilder all = new StringBuilder();
        for (int what = 0; what < 12; what++) {
            all.append(x.told(what)).append(' ');
        }
        return all.append(x.fault()).append(' ').append(x.against(0)).append(' ').append(x.against(1)).toString();
    }

    /** Asked of a dot in the picture's corner, where the borders tell the filters apart, and of all dots together. */
    private static String filters(TalliedWindows x) {
        StringBuilder all = new StringBuilder();
        for (int f = 0; f < x.told(7); f++) {
            for (int what = 0; what < 4; what++) {
                all.append(x.would(f, 0, 0, what)).append(' ');
            }
            all.append(x.bins(f)).append(' ').append(x.spikes(f, 3)).append('/');
        }
        return all.append(x.told(8)).toString();
    }

    private static String text(TalliedWindows x) {
        return x.told(6) + " " + x.picture() + " " + x.fault() + " " + Due.shown(x);
    }

    /** The entries show themselves by which one is the first wrong, now and with other greys. */
    private static String book(TalliedWindows x) {
        StringBuilder all = new StringBuilder().append(x.told(9));
        for (int grey : new int[] {0, 16, 255}) {
            x.dot(0, 0, grey);
            all.append(' ').append(x.told(10));
        }
        return all.append(' ').append(x.tear()).append(' ').append(x.told(10)).toString();
    }

    private static String past(TalliedWindows x) {
        StringBuilder all = new StringBuilder().append(x.told(11));
        for (int left = x.told(11); left > 0; left--) {
            all.append('/').append(x.undo(1));
            for (int what : new int[] {0, 1, 2, 5}) {
                all.append(' ').append(x.told(what));
            }
            all.append(' ').append(x.at(0, 0, 0)).append(' ').append(x.at(0, 0, 1));
        }
        return all.append('/').append(x.undo(1)).toString();
    }

    private static String image(TalliedWindows x, int i) {
        int kept = x.goBack(i);
        return kept + " " + Due.shown(x) + " " + filters(x) + " " + x.told(11) + " " + x.seed(0);
    }
}
