import java.util.function.IntUnaryOperator;

/** The order of the refusals, that they change nothing, and that no call throws with any numbers. */
public final class RefusalsTest {
    private static final int[] NUMBERS = {Integer.MIN_VALUE, -1000000001, -1, 0, 1, 2, 5, 11, 20, 256, Integer.MAX_VALUE};

    private static final Due due = new Due();

    public static void main(String[] args) {
        refusesInOrder();
        changesNothing();
        takesAnyNumbers();
        due.end();
    }

    private static void refusesInOrder() {
        TalliedWindows x = Due.withPicture("102030405060708090");
        due.is("at, unknown ahead of outside", x.at(9, 0, 7), TalliedWindows.UNKNOWN);
        due.is("tally, unknown ahead of outside", x.tally(0, 0, 0, 1, 999), TalliedWindows.UNKNOWN);
        due.is("would, unknown ahead of outside", x.would(0, 0, 0, 9), TalliedWindows.UNKNOWN);
        due.is("spikes, unknown ahead of outside", x.spikes(0, 999), TalliedWindows.UNKNOWN);
        due.is("dot, unknown ahead of outside", x.dot(9, 0, 999), TalliedWindows.UNKNOWN);
        due.is("until, unknown ahead of outside", x.until(0, 999), TalliedWindows.UNKNOWN);
        due.is("turn, outside ahead of not", x.turn(4), TalliedWindows.OUTSIDE);
        due.is("undo, outside ahead of not", x.undo(17), TalliedWindows.OUTSIDE);
        due.is("goBack, unknown ahead of not", x.goBack(2), TalliedWindows.UNKNOWN);
        due.is("against, unknown ahead of not", x.against(2), TalliedWindows.UNKNOWN);
        for (int i = 0; i < 20; i++) {
            x.write(0, 0, 0);
            x.filter(0, 0, 0, 0, 1);
        }
        due.is("write, unknown ahead of full", x.write(9, 0, 0), TalliedWindows.UNKNOWN);
        due.is("filter, outside ahead of full", x.filter(0, 0, 0, 0, 10), TalliedWindows.OUTSIDE);
    }

    private static String standing(TalliedWindows x) {
        StringBuilder all = new StringBuilder(Due.shown(x));
        for (int what = 0; what < 12; what++) {
            all.append(' ').append(x.told(what));
        }
        for (int f = 0; f < x.told(7); f++) {
            all.append(' ').append(x.would(f, 0, 0, 0)).append(' ').append(x.would(f, 0, 0, 1));
        }
        int seed = x.seed(0);
        x.seed(seed);
        return all.append(' ').append(seed).append(' ').append(x.fault()).append(' ').append(x.against(1)).toString();
    }

    private static void changesNothing() {
        TalliedWindows x = Due.withPicture("102030405060708090/10203040--60708090");
        x.seed(99);
        x.keep(1);
        for (int i = 0; i < 20; i++) {
            x.write(0, 0, 16);
            x.filter(1, 1, i * 10, i % 5, 1);
        }
        for (int i = 0; i < 180; i++) {
            x.feed(48);
        }
        x.noise(2);
        String was = standing(x);
        int[] refused = {x.feed(48), x.feed(256), x.told(12), x.at(9, 0, 0), x.tally(1, 0, 0, 0, 0), x.filter(0, 0, 0, 0, 1),
            x.filter(9, 0, 0, 0, 1), x.drop(6), x.fill(256), x.would(6, 0, 0, 0), x.bins(6), x.spikes(0, 256),
            x.dot(9, 0, 0), x.dot(0, 0, 256), x.mask(0, 2, true), x.turn(2), x.turn(4), x.filtered(6), x.until(6, 1),
            x.until(0, 21), x.noise(13), x.undo(3), x.undo(17), x.write(9, 0, 0), x.write(0, 0, 0), x.seed(-1),
            x.keep(2), x.goBack(0), x.goBack(2), x.against(0), x.against(2)};
        for (int i = 0; i < refused.length; i++) {
            due.holds("refusal " + i, refused[i] <= TalliedWindows.UNKNOWN && refused[i] >= TalliedWindows.FULL);
        }
        due.holds("refusals change nothing: " + was + " became " + standing(x), was.equals(standing(x)));
    }

    private static void each(String call, IntUnaryOperator by) {
        for (int number : NUMBERS) {
            try {
                int answer = by.applyAsInt(number);
                due.holds(call + " with " + number + " answers " + answer, answer >= TalliedWindows.FULL);
            } catch (RuntimeException e) {
                due.holds(call + " with " + number + " throws " + e, false);
            }
        }
    }

    private static void takesAnyNumbers() {
        TalliedWindows x = Due.withPicture("1020/30--");
        x.filter(4, 4, 50, 2, 9);
        each("feed", x::feed);
        each("told", x::told);
        each("drop", x::drop);
        each("fill", x::fill);
        each("bins", x::bins);
        each("turn", x::turn);
        each("filtered", x::filtered);
        each("noise", x::noise);
        each("undo", x::undo);
        each("seed", x::seed);
        each("against", x::against);
        each("goBack", x::goBack);
        each("keep", x::keep);
        x = Due.withPicture("1020/30--");
        x.filter(4, 4, 50, 2, 9);
        for (int a : NUMBERS) {
            TalliedWindows y = x;
            each("spikes " + a, n -> y.spikes(a, n));
            each("until " + a, n -> y.until(a, n));
            each("at " + a, n -> y.at(a, n, n));
            each("tally " + a, n -> y.tally(a, n, n, a, n));
            each("tally " + a + " behind", n -> y.tally(0, 0, a, n, a));
            each("would " + a, n -> y.would(0, a, n, a));
            each("filter " + a, n -> y.filter(a, n, a, n, a));
            each("dot " + a, n -> y.dot(a, n, n));
            each("mask " + a, n -> y.mask(a, n, n > 0));
            each("write " + a, n -> y.write(a, n, a));
        }
    }
}
