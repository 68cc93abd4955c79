import java.util.Random;

/**
 * Promises 1 to 27, all together: long runs of drawn calls, right and wrong ones, on the class and on PlainModel.
 * The draws have told seeds, so that each time the same runs come.
 */
public final class ModelRunsTest {
    private static final int RUNS = 600, CALLS = 512, MOST_IN_A_STEP = 182;
    private static final String FIGURES = "0123456789abcdef";
    private static final int[] FAR = {Integer.MIN_VALUE, Integer.MIN_VALUE + 1, Integer.MAX_VALUE, Integer.MAX_VALUE - 1,
        -1000000001, 1 << 30, 1 << 16, 65535, -2, 1000};

    private final Due due;
    private final Random random;
    private final TalliedWindows x = new TalliedWindows();
    private final PlainModel m = new PlainModel();
    private final int run;
    private int calls = 0;

    private ModelRunsTest(Due due, int run) {
        this.due = due;
        this.run = run;
        this.random = new Random(run);
    }

    public static void main(String[] args) {
        Due due = new Due();
        for (int run = 0; run < RUNS; run++) {
            new ModelRunsTest(due, run).go();
        }
        due.end();
    }

    private void go() {
        while (calls < CALLS - MOST_IN_A_STEP) {
            step();
        }
    }

    private void same(String call, int got, int want) {
        calls++;
        due.is("run " + run + ", call " + calls + ": " + call, got, want);
    }

    private void feedText() {
        String text = drawnText();
        for (int i = 0; i < text.length() && i < 180; i++) {
            same("feed(" + (int) text.charAt(i) + ")", x.feed(text.charAt(i)), m.feed(text.charAt(i)));
        }
        same("picture()", x.picture(), m.picture());
        same("fault()", x.fault(), m.fault());
    }

    private String drawnText() {
        int w = 1 + random.nextInt(random.nextInt(10) == 0 ? 11 : 6);
        int h = 1 + random.nextInt(random.nextInt(10) == 0 ? 9 : 4);
        int few = 1 + random.nextInt(16);
        int masks = random.nextInt(3) == 0 ? 2 : 9;
        StringBuilder text = new StringBuilder();
        for (int row = 0; row < h; row++) {
            text.append(row == 0 ? "" : "/");
            int wide = random.nextInt(60) == 0 ? w + 1 - random.nextInt(3) : w;
            for (int column = 0; column < wide; column++) {
                boolean isMask = random.nextInt(masks) == 0;
                text.append(isMask ? "--" : "" + FIGURES.charAt(random.nextInt(few)) + FIGURES.charAt(random.nextInt(few)));
            }
        }
        if (random.nextInt(5) == 0 && text.length() > 0) {
            String odd = "/-0fgA\u0000\u00ff:`";
            text.setCharAt(random.nextInt(text.length()), odd.charAt(random.nextInt(odd.length())));
        }
        return text.toString();
    }

    /** Mostly a number in its bounds, now and then one beside or far from them. */
    private int number(int least, int most) {
        int kind = random.nextInt(40);
        if (kind == 0) {
            return FAR[random.nextInt(FAR.length)];
        }
        if (kind == 1) {
            return random.nextBoolean() ? least - 1 : most + 1;
        }
        return least + random.nextInt(most - least + 1);
    }

    private int column() {
        return number(0, m.told(0) - 1);
    }

    private int row() {
        return number(0, m.told(1) - 1);
    }

    private int filterNumber() {
        return number(0, Math.max(0, m.told(7) - 1));
    }

    private void step() {
        switch (random.nextInt(40)) {
            case 0: case 1: case 2: feedText(); break;
            case 3: lookAtAll(); break;
            case 4: same("tear()", x.tear(), m.tear()); break;
            default: stepInPicture();
        }
    }

    private void stepInPicture() {
        switch (random.nextInt(6)) {
            case 0: ask(); break;
            case 1: askFilters(); break;
            case 2: change(); break;
            case 3: changeFilters(); break;
            case 4: filterThem(); break;
            default: goOn();
        }
    }

    private void ask() {
        int a = column();
        int b = row();
        int c = column();
        int d = row();
        int g = number(-1, 256);
        int what = number(0, 11);
        same("told(" + what + ")", x.told(what), m.told(what));
        int which = number(0, 1);
        same("at(" + a + ", " + b + ", " + which + ")", x.at(a, b, which), m.at(a, b, which));
        same("tally(" + a + ", " + b + ", " + c + ", " + d + ", " + g + ")", x.tally(a, b, c, d, g), m.tally(a, b, c, d, g));
    }

    private void askFilters() {
        int f = filterNumber();
        int a = column();
        int b = row();
        int what = number(0, 3);
        int t = number(0, random.nextBoolean() ? 30 : 255);
        same("would(" + f + ", " + a + ", " + b + ", " + what + ")", x.would(f, a, b, what), m.would(f, a, b, what));
        same("bins(" + f + ")", x.bins(f), m.bins(f));
        same("spikes(" + f + ", " + t + ")", x.spikes(f, t), m.spikes(f, t));
    }

    private void change() {
        int a = column();
        int b = row();
        int g = number(0, 255);
        int how = number(0, 3);
        boolean is = random.nextBoolean();
        switch (random.nextInt(3)) {
            case 0: same("dot(" + a + ", " + b + ", " + g + ")", x.dot(a, b, g), m.dot(a, b, g)); break;
            case 1: same("mask(" + a + ", " + b + ", " + is + ")", x.mask(a, b, is), m.mask(a, b, is)); break;
            default: same("turn(" + how + ")", x.turn(how), m.turn(how));
        }
        sums();
    }

    private void changeFilters() {
        if (random.nextInt(4) == 0) {
            int f = filterNumber();
            same("drop(" + f + ")", x.drop(f), m.drop(f));
        }
        int a = number(0, 4);
        int b = number(0, 4);
        int rank = random.nextInt(3) == 0 ? 50 * random.nextInt(3) : number(0, 100);
        int border = number(0, 4);
        int weight = number(1, 9);
        same("filter(" + a + ", " + b + ", " + rank + ", " + border + ", " + weight + ")",
            x.filter(a, b, rank, border, weight), m.filter(a, b, rank, border, weight));
        int g = number(0, 255);
        same("fill(" + g + ")", x.fill(g), m.fill(g));
    }

    private void filterThem() {
        int f = filterNumber();
        int n = number(1, 20);
        switch (random.nextInt(3)) {
            case 0: same("filtered(" + f + ")", x.filtered(f), m.filtered(f)); break;
            case 1: same("until(" + f + ", " + n + ")", x.until(f, n), m.until(f, n)); break;
            default: same("all()", x.all(), m.all());
        }
        sums();
    }

    private void goOn() {
        int i = number(0, 1);
        int n = number(1, random.nextBoolean() ? 3 : 16);
        int v = random.nextBoolean() ? random.nextInt() : number(0, 9);
        int a = column();
        int b = row();
        int g = random.nextInt(3) == 0 ? number(0, 255) : m.at(a, b, 0);
        switch (random.nextInt(7)) {
            case 0: same("keep(" + i + ")", x.keep(i), m.keep(i)); break;
            case 1: same("goBack(" + i + ")", x.goBack(i), m.goBack(i)); break;
            case 2: same("seed(" + v + ")", x.seed(v), m.seed(v)); break;
            case 3: same("noise(" + n + ")", x.noise(n), m.noise(n)); break;
            case 4: same("undo(" + n + ")", x.undo(n), m.undo(n)); break;
            case 5: same("write(" + a + ", " + b + ", " + g + ")", x.write(a, b, g), m.write(a, b, g)); break;
            default: same("against(" + i + ")", x.against(i), m.against(i));
        }
        same("told(10)", x.told(10), m.told(10));
        same("told(11)", x.told(11), m.told(11));
        same("against(0)", x.against(0), m.against(0));
    }

    private void sums() {
        same("told(2)", x.told(2), m.told(2));
        same("told(5)", x.told(5), m.told(5));
    }

    private void lookAtAll() {
        for (int b = 0; b < m.told(1); b++) {
            for (int a = 0; a < m.told(0); a++) {
                same("at(" + a + ", " + b + ", 0)", x.at(a, b, 0), m.at(a, b, 0));
                same("at(" + a + ", " + b + ", 1)", x.at(a, b, 1), m.at(a, b, 1));
            }
        }
    }
}
