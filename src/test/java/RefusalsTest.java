import java.util.function.IntUnaryOperator;

/**
 * "REFUSALS, of several the first in this order: UNKNOWN, OUTSIDE, NOT, FULL. What is refused changes nothing."
 * Every refusal of every call: the numbers on both sides of its bounds, far ones, and those that hold at once; of each
 * that nothing is otherwise by it. And "ASKED, nothing changes by it".
 */
public final class RefusalsTest {
    private static final int[] NUMBERS = {Integer.MIN_VALUE, -1000000001, -1, 0, 1, 2, 5, 11, 20, 256, Integer.MAX_VALUE};

    private static final Due due = new Due();
    private static final Twins anew = new Twins(due, "a new object", x -> { });
    private static final Twins busy = new Twins(due, "a busy one", RefusalsTest::makeBusy);
    private static final Twins full = new Twins(due, "a full one", RefusalsTest::makeFull);

    public static void main(String[] args) {
        tellsRefusalsFromAllElse();
        refusesLetters();
        refusesQuestions();
        refusesTallies();
        refusesFilters();
        refusesFiltersThatThereAreNot();
        refusesWould();
        refusesSpikesAndFill();
        refusesDotsAndMasks();
        refusesTurns();
        refusesAll();
        refusesUntil();
        refusesNoiseAndSeeds();
        refusesUndoing();
        refusesEntries();
        refusesImages();
        asksWithoutATrace();
        takesAnyNumbers();
        due.end();
    }

    /** Three by two with a mask, two filters, two entries, four letters, image 1 kept, three deeds since. */
    private static void makeBusy(TalliedWindows x) {
        Due.feedAll(x, "102030/40--60");
        x.picture();
        x.filter(1, 1, 50, 2, 3);
        x.fill(7);
        x.seed(99);
        x.keep(1);
        x.filter(2, 0, 100, 4, 1);
        x.dot(0, 0, 0x77);
        x.mask(2, 1, true);
        Due.feedAll(x, "0g");
        x.picture();
        x.dot(1, 0, 0x21);
        x.write(0, 0, 0x77);
        x.write(0, 1, 0x41);
        Due.feedAll(x, "01/0");
    }

    /** Nine by one, all that can be full is, both images are kept, and the seventeenth deed has put the first out. */
    private static void makeFull(TalliedWindows x) {
        Due.feedAll(x, "10203040--60708090");
        x.picture();
        x.keep(0);
        x.fill(255);
        x.seed(2147483647);
        for (int f = 0; f < 6; f++) {
            x.filter(f % 5, 0, 20 * f, f % 5, 1 + f);
        }
        x.keep(1);
        for (int i = 0; i < 17; i++) {
            x.dot(i % 9, 0, i);
        }
        for (int i = 0; i < 20; i++) {
            x.write(0, 0, i < 3 ? 9 : i);
        }
        for (int i = 0; i < 180; i++) {
            x.feed(i % 19 == 18 ? '/' : 'a');
        }
    }

    /** The numbers beside the bounds, and the farthest. */
    private static int[] beyond(int least, int most) {
        return new int[] {least - 1, most + 1, Integer.MIN_VALUE, Integer.MAX_VALUE};
    }

    private static void tellsRefusalsFromAllElse() {
        due.is("UNKNOWN", TalliedWindows.UNKNOWN, -1000000001L);
        due.is("OUTSIDE", TalliedWindows.OUTSIDE, -1000000002L);
        due.is("NOT", TalliedWindows.NOT, -1000000003L);
        due.is("FULL", TalliedWindows.FULL, -1000000004L);
    }

    private static void refusesLetters() {
        for (int letter : beyond(0, 255)) {
            busy.isOutside("feed(" + letter + ")", x -> x.feed(letter));
            full.isOutside("feed(" + letter + "), outside ahead of full", x -> x.feed(letter));
        }
        full.isFull("feed(0)", x -> x.feed(0));
        full.isFull("feed('0')", x -> x.feed('0'));
        full.isFull("feed(255)", x -> x.feed(255));
    }

    private static void refusesQuestions() {
        for (int what : beyond(0, 11)) {
            busy.isOutside("told(" + what + ")", x -> x.told(what));
        }
        for (int what : beyond(0, 1)) {
            busy.isOutside("at(0, 0, " + what + ")", x -> x.at(0, 0, what));
            busy.isUnknown("at(3, 0, " + what + "), unknown ahead of outside", x -> x.at(3, 0, what));
        }
        for (int column : beyond(0, 2)) {
            busy.isUnknown("at(" + column + ", 0, 0)", x -> x.at(column, 0, 0));
        }
        for (int row : beyond(0, 1)) {
            busy.isUnknown("at(0, " + row + ", 1)", x -> x.at(0, row, 1));
        }
        anew.isUnknown("at(1, 0, 0)", x -> x.at(1, 0, 0));
        anew.isUnknown("at(0, 1, 0)", x -> x.at(0, 1, 0));
    }

    private static void refusesTallies() {
        for (int g : beyond(-1, 256)) {
            busy.isOutside("tally of " + g, x -> x.tally(0, 0, 2, 1, g));
            busy.isUnknown("tally of " + g + " from no dot", x -> x.tally(3, 0, 2, 1, g));
            busy.isUnknown("tally of " + g + " to no dot", x -> x.tally(0, 0, 2, 2, g));
        }
        for (int column : beyond(0, 2)) {
            busy.isUnknown("tally from x " + column, x -> x.tally(column, 0, 2, 1, 9));
            busy.isUnknown("tally to u " + column, x -> x.tally(0, 0, column, 1, 9));
        }
        for (int row : beyond(0, 1)) {
            busy.isUnknown("tally from y " + row, x -> x.tally(0, row, 2, 1, 9));
            busy.isUnknown("tally to v " + row, x -> x.tally(0, 0, 2, row, 9));
        }
        busy.isOutside("tally, u one below x", x -> x.tally(1, 0, 0, 1, 9));
        busy.isOutside("tally, v one below y", x -> x.tally(0, 1, 2, 0, 9));
        busy.isOutside("tally, u and v below x and y", x -> x.tally(2, 1, 1, 0, 9));
        busy.isUnknown("tally, u below x and no dot", x -> x.tally(0, 0, -1, 0, 9));
        busy.isUnknown("tally, v below y and x no dot", x -> x.tally(3, 1, 2, 0, 9));
    }

    private static void refusesFilters() {
        int[] least = {0, 0, 0, 0, 1};
        int[] most = {4, 4, 100, 4, 9};
        for (int i = 0; i < 5; i++) {
            for (int number : beyond(least[i], most[i])) {
                int[] a = {1, 1, 50, 1, 1};
                a[i] = number;
                busy.isOutside("filter, number " + i + " is " + number, x -> x.filter(a[0], a[1], a[2], a[3], a[4]));
                full.isOutside("a seventh filter, number " + i + " is " + number, x -> x.filter(a[0], a[1], a[2], a[3], a[4]));
            }
        }
        full.isFull("a seventh filter", x -> x.filter(0, 0, 0, 0, 1));
        full.isFull("a seventh filter, the greatest", x -> x.filter(4, 4, 100, 4, 9));
    }

    private static void refusesFiltersThatThereAreNot() {
        for (int f : beyond(0, 1)) {
            busy.isUnknown("drop(" + f + ")", x -> x.drop(f));
            busy.isUnknown("bins(" + f + ")", x -> x.bins(f));
            busy.isUnknown("filtered(" + f + ")", x -> x.filtered(f));
        }
        for (int f : beyond(0, 5)) {
            full.isUnknown("drop(" + f + ")", x -> x.drop(f));
            full.isUnknown("bins(" + f + ")", x -> x.bins(f));
            full.isUnknown("filtered(" + f + ")", x -> x.filtered(f));
        }
        anew.isUnknown("drop(0)", x -> x.drop(0));
        anew.isUnknown("bins(0)", x -> x.bins(0));
        anew.isUnknown("filtered(0)", x -> x.filtered(0));
    }

    private static void refusesWould() {
        for (int f : beyond(0, 1)) {
            busy.isUnknown("would by " + f, x -> x.would(f, 0, 0, 0));
            busy.isUnknown("would by " + f + ", 4, unknown ahead of outside", x -> x.would(f, 0, 0, 4));
        }
        for (int column : beyond(0, 2)) {
            busy.isUnknown("would of x " + column, x -> x.would(0, column, 0, 0));
        }
        for (int row : beyond(0, 1)) {
            busy.isUnknown("would of y " + row, x -> x.would(0, 0, row, 0));
        }
        for (int what : beyond(0, 3)) {
            busy.isOutside("would(0, 0, 0, " + what + ")", x -> x.would(0, 0, 0, what));
            busy.isUnknown("would(0, 3, 0, " + what + "), unknown ahead of outside", x -> x.would(0, 3, 0, what));
        }
        anew.isUnknown("would(0, 0, 0, 0)", x -> x.would(0, 0, 0, 0));
    }

    private static void refusesSpikesAndFill() {
        for (int t : beyond(0, 255)) {
            busy.isOutside("spikes(0, " + t + ")", x -> x.spikes(0, t));
            busy.isUnknown("spikes(2, " + t + "), unknown ahead of outside", x -> x.spikes(2, t));
            anew.isUnknown("spikes(0, " + t + "), unknown ahead of outside", x -> x.spikes(0, t));
            busy.isOutside("fill(" + t + ")", x -> x.fill(t));
        }
        for (int f : beyond(0, 1)) {
            busy.isUnknown("spikes(" + f + ", 0)", x -> x.spikes(f, 0));
        }
        anew.isUnknown("spikes(0, 0)", x -> x.spikes(0, 0));
    }

    private static void refusesDotsAndMasks() {
        for (int g : beyond(0, 255)) {
            busy.isOutside("dot(0, 0, " + g + ")", x -> x.dot(0, 0, g));
            busy.isUnknown("dot(3, 0, " + g + "), unknown ahead of outside", x -> x.dot(3, 0, g));
        }
        for (int column : beyond(0, 2)) {
            busy.isUnknown("dot(" + column + ", 0, 1)", x -> x.dot(column, 0, 1));
            busy.isUnknown("mask(" + column + ", 0, true)", x -> x.mask(column, 0, true));
        }
        for (int row : beyond(0, 1)) {
            busy.isUnknown("dot(0, " + row + ", 1)", x -> x.dot(0, row, 1));
            busy.isUnknown("mask(0, " + row + ", true)", x -> x.mask(0, row, true));
            busy.isUnknown("mask(0, " + row + ", false)", x -> x.mask(0, row, false));
        }
    }

    private static void refusesTurns() {
        for (int how : beyond(0, 3)) {
            busy.isOutside("turn(" + how + ")", x -> x.turn(how));
            full.isOutside("turn(" + how + ") of nine by one, outside ahead of not", x -> x.turn(how));
        }
        full.isNot("turn(2) of nine by one", x -> x.turn(2));
    }

    private static void refusesAll() {
        anew.isNot("all()", x -> x.all());
        new Twins(due, "one whose filters are gone", x -> {
            makeBusy(x);
            x.drop(0);
            x.drop(0);
        }).isNot("all()", x -> x.all());
    }

    private static void refusesUntil() {
        for (int n : beyond(1, 20)) {
            busy.isOutside("until(0, " + n + ")", x -> x.until(0, n));
            busy.isUnknown("until(2, " + n + "), unknown ahead of outside", x -> x.until(2, n));
        }
        for (int f : beyond(0, 1)) {
            busy.isUnknown("until(" + f + ", 1)", x -> x.until(f, 1));
        }
        anew.isUnknown("until(0, 20)", x -> x.until(0, 20));
    }

    private static void refusesNoiseAndSeeds() {
        for (int n : beyond(1, 12)) {
            busy.isOutside("noise(" + n + ")", x -> x.noise(n));
        }
        busy.isOutside("seed(-1)", x -> x.seed(-1));
        busy.isOutside("seed(-2147483648)", x -> x.seed(Integer.MIN_VALUE));
    }

    private static void refusesUndoing() {
        for (int n : beyond(1, 16)) {
            busy.isOutside("undo(" + n + ")", x -> x.undo(n));
            anew.isOutside("undo(" + n + "), outside ahead of not", x -> x.undo(n));
            full.isOutside("undo(" + n + ")", x -> x.undo(n));
        }
        busy.isNot("undo(4) of three", x -> x.undo(4));
        busy.isNot("undo(16) of three", x -> x.undo(16));
        anew.isNot("undo(1) of none", x -> x.undo(1));
        anew.isNot("undo(16) of none", x -> x.undo(16));
    }

    private static void refusesEntries() {
        for (int column : beyond(0, 2)) {
            busy.isUnknown("write(" + column + ", 0, 1)", x -> x.write(column, 0, 1));
        }
        for (int row : beyond(0, 1)) {
            busy.isUnknown("write(0, " + row + ", 1)", x -> x.write(0, row, 1));
        }
        full.isFull("write(0, 0, 1)", x -> x.write(0, 0, 1));
        full.isUnknown("write(9, 0, 1), unknown ahead of full", x -> x.write(9, 0, 1));
        full.isUnknown("write(0, 1, 1), unknown ahead of full", x -> x.write(0, 1, 1));
    }

    private static void refusesImages() {
        for (int i : beyond(0, 1)) {
            busy.isUnknown("keep(" + i + ")", x -> x.keep(i));
            busy.isUnknown("goBack(" + i + ")", x -> x.goBack(i));
            busy.isUnknown("against(" + i + ")", x -> x.against(i));
            anew.isUnknown("goBack(" + i + "), unknown ahead of not", x -> x.goBack(i));
            anew.isUnknown("against(" + i + "), unknown ahead of not", x -> x.against(i));
        }
        busy.isNot("goBack(0), image 1 alone was kept", x -> x.goBack(0));
        busy.isNot("against(0), image 1 alone was kept", x -> x.against(0));
        for (int i = 0; i < 2; i++) {
            int image = i;
            anew.isNot("goBack(" + i + ")", x -> x.goBack(image));
            anew.isNot("against(" + i + ")", x -> x.against(image));
        }
    }

    private static void asksWithoutATrace() {
        int[] told = {3, 2, 2, 0x21, 0x77, 0x77 + 0x21 + 0x30 + 0x40, 4, 2, 7, 2, 1, 3};
        for (int what = 0; what < told.length; what++) {
            int question = what;
            busy.leaves("told(" + what + ")", told[what], x -> x.told(question));
        }
        busy.leaves("fault()", 1, x -> x.fault());
        busy.leaves("at(0, 0, 0)", 0x77, x -> x.at(0, 0, 0));
        busy.leaves("at(1, 1, 1)", 1, x -> x.at(1, 1, 1));
        busy.leaves("tally(0, 0, 2, 1, 256)", 4, x -> x.tally(0, 0, 2, 1, 256));
        // the corner's dot is six of them: itself three times, and once for each of three places behind the mirror
        busy.leaves("would(0, 0, 0, 1)", 10, x -> x.would(0, 0, 0, 1));
        busy.leaves("bins(1)", 3 * (7 + 7 + 2) + 4 + 2, x -> x.bins(1));
        busy.leaves("spikes(1, 0)", 2, x -> x.spikes(1, 0));
        busy.leaves("against(1)", 3, x -> x.against(1));
        full.leaves("against(0)", 9, x -> x.against(0));
        full.leaves("told(10)", 3, x -> x.told(10));
    }

    private static void each(String call, IntUnaryOperator by) {
        for (int number : NUMBERS) {
            try {
                int answer = by.applyAsInt(number);
                due.holds(call + " with " + number + " answers " + answer, answer >= TalliedWindows.FULL);
            } catch (RuntimeException e) {
                due.holds(call + " with " + number + " throws " + e, false);
            }
        }
    }

    private static void takesAnyNumbers() {
        TalliedWindows x = Due.withPicture("1020/30--");
        x.filter(4, 4, 50, 2, 9);
        each("feed", x::feed);
        each("told", x::told);
        each("drop", x::drop);
        each("fill", x::fill);
        each("bins", x::bins);
        each("turn", x::turn);
        each("filtered", x::filtered);
        each("noise", x::noise);
        each("undo", x::undo);
        each("seed", x::seed);
        each("against", x::against);
        each("goBack", x::goBack);
        each("keep", x::keep);
        for (int a : NUMBERS) {
            TalliedWindows y = Due.withPicture("1020/30--");
            y.filter(4, 4, 50, 2, 9);
            each("spikes " + a, n -> y.spikes(a, n));
            each("until " + a, n -> y.until(a, n));
            each("at " + a, n -> y.at(a, n, n));
            each("tally " + a, n -> y.tally(a, n, n, a, n));
            each("tally " + a + " behind", n -> y.tally(0, 0, a, n, a));
            each("would " + a, n -> y.would(0, a, n, a));
            each("filter " + a, n -> y.filter(a, n, a, n, a));
            each("dot " + a, n -> y.dot(a, n, n));
            each("mask " + a, n -> y.mask(a, n, n > 0));
            each("write " + a, n -> y.write(a, n, a));
        }
    }
}
