/** Promises 20, 21, 24: noise, undo, seed. */
public final class DrawsTest {
    private static final Due due = new Due();

    public static void main(String[] args) {
        setsTheSeed();
        drawsNoise();
        refusesNoise();
        undoesDeeds();
        undoesNoiseOneByOne();
        keepsSixteen();
        due.end();
    }

    private static void setsTheSeed() {
        TalliedWindows x = new TalliedWindows();
        due.is("seed(2147483647)", x.seed(2147483647), 0);
        due.is("seed(-1)", x.seed(-1), TalliedWindows.OUTSIDE);
        due.is("seed(5)", x.seed(5), 2147483647);
        due.is("seed(0)", x.seed(0), 5);
        due.is("told(11), seed is no deed", x.told(11), 0);
    }

    /** The generator of the document, told again in long arithmetic with a mask. */
    private static long next(long seed) {
        return (seed * 1103515245L + 12345L) & 0x7fffffffL;
    }

    private static void drawsNoise() {
        boolean[] kinds = new boolean[3];
        for (int start = 0; start < 40; start++) {
            TalliedWindows x = Due.withPicture("40404040/4040--40/40404040");
            int[] greys = new int[12];
            java.util.Arrays.fill(greys, 0x40);
            greys[6] = 0;
            long seed = start * 53687091L;
            x.seed((int) seed);
            for (int i = 0; i < 5; i++) {
                seed = next(seed);
                int column = (int) (seed / 65536 % 4);
                seed = next(seed);
                int row = (int) (seed / 65536 % 3);
                seed = next(seed);
                int kind = (int) (seed / 65536 % 3);
                kinds[kind] = true;
                if (kind == 2) {
                    seed = next(seed);
                }
                greys[row * 4 + column] = kind == 0 ? 0 : kind == 1 ? 255 : (int) (seed / 65536 % 256);
            }
            due.is("noise(5) from " + start, x.noise(5), seed);
            for (int i = 0; i < 12; i++) {
                due.is("dot " + i + " behind noise from " + start, x.at(i % 4, i / 4, 0), greys[i]);
            }
            due.is("masks behind noise", x.told(2), 1);
            due.is("the seed behind noise", x.seed(1), seed);
        }
        due.holds("all three kinds were drawn", kinds[0] && kinds[1] && kinds[2]);
    }

    private static void refusesNoise() {
        TalliedWindows x = new TalliedWindows();
        due.is("noise(0)", x.noise(0), TalliedWindows.OUTSIDE);
        due.is("noise(13)", x.noise(13), TalliedWindows.OUTSIDE);
        due.is("noise(-1)", x.noise(-1), TalliedWindows.OUTSIDE);
        due.is("the seed behind refusals", x.seed(0), 0);
        due.is("told(11) behind refusals", x.told(11), 0);
        due.holds("noise(1)", x.noise(1) >= 0);
        due.is("told(11) behind noise(1)", x.told(11), 1);
        x.undo(1);
        due.holds("noise(12)", x.noise(12) >= 0);
        due.is("told(11) behind noise(12)", x.told(11), 12);
    }

    private static void undoesDeeds() {
        TalliedWindows x = Due.withPicture("1020/3040/5060");
        x.dot(0, 0, 1);
        x.mask(1, 1, true);
        x.turn(2);
        x.filter(1, 1, 100, 0, 1);
        x.fill(3);
        x.write(0, 0, 1);
        x.seed(77);
        x.filtered(0);
        due.is("told(11)", x.told(11), 5);
        due.is("undo(0)", x.undo(0), TalliedWindows.OUTSIDE);
        due.is("undo(17)", x.undo(17), TalliedWindows.OUTSIDE);
        due.is("undo(-1)", x.undo(-1), TalliedWindows.OUTSIDE);
        due.is("undo(6)", x.undo(6), TalliedWindows.NOT);
        due.is("undo(1) of filtered", x.undo(1), 4);
        due.shows("filtered undone", x, "013050/20(40)60");
        due.is("undo(2) of turn, mask", x.undo(2), 2);
        due.shows("turn, mask undone", x, "0120/3040/5060");
        due.is("undo(1) of dot", x.undo(1), 1);
        due.shows("dot undone", x, "1020/3040/5060");
        due.is("undo(1) of picture", x.undo(1), 0);
        due.shows("picture undone", x, "00");
        due.is("undo(1) of nothing", x.undo(1), TalliedWindows.NOT);
        due.is("filters stay", x.told(7), 1);
        due.is("fill stays", x.told(8), 3);
        due.is("the book stays", x.told(9), 1);
        due.is("the seed stays", x.seed(0), 77);
    }

    private static void undoesNoiseOneByOne() {
        TalliedWindows x = Due.withPicture("40404040/40404040");
        TalliedWindows y = Due.withPicture("40404040/40404040");
        int seed = x.noise(4);
        y.noise(3);
        due.is("told(11) behind noise(4)", x.told(11), 5);
        due.is("undo(1) of noise", x.undo(1), 4);
        due.shows("the last speck undone", x, Due.shown(y));
        due.is("undo(3) of noise", x.undo(3), 1);
        due.shows("all specks undone", x, "40404040/40404040");
        due.is("the seed stays", x.seed(0), seed);
    }

    private static void keepsSixteen() {
        TalliedWindows x = new TalliedWindows();
        for (int g = 1; g <= 40; g++) {
            x.dot(0, 0, g);
            due.is("told(11) behind deed " + g, x.told(11), Math.min(g, 16));
        }
        due.is("undo(3)", x.undo(3), 13);
        due.is("grey behind undo(3)", x.at(0, 0, 0), 37);
        x.dot(0, 0, 99);
        due.is("undo(1)", x.undo(1), 13);
        due.is("grey behind undo(1)", x.at(0, 0, 0), 37);
        due.is("undo(14)", x.undo(14), TalliedWindows.NOT);
        due.is("undo(13)", x.undo(13), 0);
        due.is("grey behind undo(13)", x.at(0, 0, 0), 24);
    }
}
