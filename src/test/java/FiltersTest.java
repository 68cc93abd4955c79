/** Promises 8 to 13: filter, drop, fill, would, bins, spikes. */
public final class FiltersTest {
    private static final Due due = new Due();

    public static void main(String[] args) {
        numbersFilters();
        refusesFilters();
        setsFill();
        ranksWindows();
        countsByBorders();
        mirrorsAgain();
        countsTheDotItselfByWeight();
        leavesOutMaskedDots();
        refusesWould();
        countsBins();
        countsSpikes();
        due.end();
    }

    private static void numbersFilters() {
        TalliedWindows x = Due.withPicture("102030");
        int[] ranks = {0, 100, 50, 0, 100, 50};
        for (int f = 0; f < 6; f++) {
            due.is("filter as number " + f, x.filter(1, 0, ranks[f], 0, 1), f);
        }
        due.is("a seventh filter", x.filter(0, 0, 0, 0, 1), TalliedWindows.FULL);
        due.is("a seventh filter, out of bounds", x.filter(5, 0, 0, 0, 1), TalliedWindows.OUTSIDE);
        due.is("drop(6)", x.drop(6), TalliedWindows.UNKNOWN);
        due.is("drop(-1)", x.drop(-1), TalliedWindows.UNKNOWN);
        due.is("drop(1)", x.drop(1), 5);
        due.is("told(7)", x.told(7), 5);
        int[] left = {0x10, 0x20, 0x10, 0x30, 0x20};
        for (int f = 0; f < 5; f++) {
            due.is("would by " + f + " behind drop(1)", x.would(f, 1, 0, 0), left[f]);
        }
        due.is("would by 5 behind drop(1)", x.would(5, 1, 0, 0), TalliedWindows.UNKNOWN);
        due.is("drop(4), the last", x.drop(4), 4);
        due.is("would by 3", x.would(3, 1, 0, 0), 0x30);
        due.is("filter behind drops", x.filter(0, 0, 0, 0, 1), 4);
        due.is("told(11), filters are no deeds", x.told(11), 1);
    }

    private static void refusesFilters() {
        TalliedWindows x = new TalliedWindows();
        int[] least = {0, 0, 0, 0, 1};
        int[] most = {4, 4, 100, 4, 9};
        due.is("the least filter", x.filter(0, 0, 0, 0, 1), 0);
        due.is("the greatest filter", x.filter(4, 4, 100, 4, 9), 1);
        for (int i = 0; i < 5; i++) {
            int[] a = least.clone();
            a[i] = least[i] - 1;
            due.is("filter, argument " + i + " too small", x.filter(a[0], a[1], a[2], a[3], a[4]), TalliedWindows.OUTSIDE);
            a[i] = most[i] + 1;
            due.is("filter, argument " + i + " too great", x.filter(a[0], a[1], a[2], a[3], a[4]), TalliedWindows.OUTSIDE);
        }
        due.is("told(7) behind refusals", x.told(7), 2);
    }

    private static void setsFill() {
        TalliedWindows x = new TalliedWindows();
        due.is("fill(255)", x.fill(255), 0);
        due.is("fill(256)", x.fill(256), TalliedWindows.OUTSIDE);
        due.is("fill(-1)", x.fill(-1), TalliedWindows.OUTSIDE);
        due.is("told(8)", x.told(8), 255);
        due.is("fill(0)", x.fill(0), 255);
    }

    private static void would(TalliedWindows x, int f, int column, int row, int last, int n, int below, int spread) {
        String of = "would(" + f + ", " + column + ", " + row + ", ";
        due.is(of + "0)", x.would(f, column, row, 0), last);
        due.is(of + "1)", x.would(f, column, row, 1), n);
        due.is(of + "2)", x.would(f, column, row, 2), below);
        due.is(of + "3)", x.would(f, column, row, 3), spread);
    }

    private static void ranksWindows() {
        TalliedWindows x = Due.withPicture("090807/060504/030201");
        int[] ranks = {0, 11, 12, 13, 50, 87, 88, 99, 100};
        int[] lasts = {1, 1, 1, 2, 5, 7, 8, 8, 9};
        for (int i = 0; i < ranks.length; i++) {
            x.filter(1, 1, ranks[i], 0, 1);
            would(x, 0, 1, 1, lasts[i], 9, 4, 8);
            x.drop(0);
        }
        x.filter(0, 1, 50, 0, 1);
        would(x, 0, 1, 1, 5, 3, 1, 6);
        would(x, 0, 0, 0, 6, 2, 1, 3);
        x.filter(2, 0, 100, 0, 1);
        would(x, 1, 2, 0, 9, 3, 0, 2);
        x.filter(0, 0, 70, 0, 1);
        would(x, 2, 2, 2, 1, 1, 0, 0);
        due.is("told(11), would is no deed", x.told(11), 1);
        x = Due.withPicture("0000010fff");
        x.filter(4, 0, 50, 0, 1);
        would(x, 0, 0, 0, 1, 5, 0, 255);
        would(x, 0, 2, 0, 1, 5, 2, 255);
        would(x, 0, 4, 0, 1, 5, 4, 255);
    }

    private static void countsByBorders() {
        TalliedWindows x = Due.withPicture("102030/405060/708090");
        x.fill(0x18);
        for (int border = 0; border < 5; border++) {
            x.filter(1, 1, 50, border, 1);
        }
        // 10 20 40 50
        would(x, 0, 0, 0, 0x20, 4, 0, 0x40);
        // 10 10 10 10 20 20 40 40 50, by the nearest and by the mirror alike
        would(x, 1, 0, 0, 0x20, 9, 0, 0x40);
        would(x, 2, 0, 0, 0x20, 9, 0, 0x40);
        // all nine
        would(x, 3, 0, 0, 0x50, 9, 0, 0x80);
        // 10 18 18 18 18 18 20 40 50
        would(x, 4, 0, 0, 0x18, 9, 0, 0x40);
        // 50 60 80 90 and five of 18
        would(x, 4, 2, 2, 0x18, 9, 8, 0x78);
        x = Due.withPicture("01020304");
        x.filter(2, 0, 50, 1, 1);
        x.filter(2, 0, 50, 2, 1);
        x.filter(2, 0, 50, 3, 1);
        x.filter(2, 1, 0, 0, 1);
        // nearest 1 1 1 2 3; mirror 2 1 1 2 3; again 3 4 1 2 3
        would(x, 0, 0, 0, 1, 5, 0, 2);
        would(x, 1, 0, 0, 2, 5, 0, 2);
        would(x, 2, 0, 0, 3, 5, 0, 3);
        // nearest 2 3 4 4 4; mirror 2 3 4 4 3; again 2 3 4 1 2
        would(x, 0, 3, 0, 4, 5, 2, 2);
        would(x, 1, 3, 0, 3, 5, 3, 2);
        would(x, 2, 3, 0, 2, 5, 4, 3);
        // above and below there is nothing
        would(x, 3, 3, 0, 2, 3, 2, 2);
    }

    private static void mirrorsAgain() {
        TalliedWindows x = Due.withPicture("01/09");
        x.filter(4, 4, 50, 2, 1);
        // rows -4 .. 4 of two: 1 9 9 1 | 1 | 9 9 1 1, nine times each
        would(x, 0, 0, 0, 1, 81, 0, 8);
        // rows -3 .. 5: 9 9 1 1 | 9 | 9 1 1 9
        would(x, 0, 0, 1, 9, 81, 36, 8);
        x.filter(4, 4, 50, 3, 1);
        // rows -4 .. 4: 1 9 1 9 | 1 | 9 1 9 1
        would(x, 1, 0, 0, 1, 81, 0, 8);
        would(x, 1, 0, 1, 9, 81, 36, 8);
        x = Due.withPicture("010203");
        x.filter(4, 0, 0, 2, 1);
        x.filter(4, 0, 50, 2, 1);
        x.filter(4, 0, 100, 3, 1);
        // -4 .. 4 of three: 3 3 2 1 | 1 | 2 3 3 2
        would(x, 1, 0, 0, 2, 9, 0, 2);
        // -2 .. 6: 2 1 1 2 | 3 | 3 2 1 1
        due.is("how many are below 3 by the mirror", x.would(0, 2, 0, 2), 7);
        // -4 .. 4 again: 3 1 2 3 | 1 | 2 3 1 2
        would(x, 2, 0, 0, 3, 9, 0, 2);
        due.is("how many are below 3, again and again", x.would(2, 2, 0, 2), 6);
    }

    private static void countsTheDotItselfByWeight() {
        TalliedWindows x = Due.withPicture("102030/40ff60/708090");
        x.filter(1, 1, 50, 0, 9);
        would(x, 0, 1, 1, 0xff, 17, 8, 0xef);
        x.filter(1, 1, 50, 1, 5);
        // a dot that stands for a place out of the picture counts once: 10 is 5 and 3 times
        would(x, 1, 0, 0, 0x10, 13, 0, 0xef);
        x.filter(0, 0, 50, 0, 9);
        would(x, 2, 1, 1, 0xff, 9, 0, 0);
    }

    private static void leavesOutMaskedDots() {
        TalliedWindows x = Due.withPicture("10--30/------");
        x.filter(1, 1, 50, 0, 9);
        x.filter(0, 0, 50, 0, 9);
        x.filter(0, 1, 50, 1, 2);
        x.filter(0, 1, 50, 4, 2);
        would(x, 0, 0, 0, 0x10, 9, 0, 0);
        would(x, 0, 1, 0, 0x10, 2, 0, 0x20);
        would(x, 1, 1, 0, TalliedWindows.NONE, 0, 0, TalliedWindows.NONE);
        would(x, 2, 0, 1, 0x10, 1, 0, 0);
        would(x, 2, 1, 1, TalliedWindows.NONE, 0, 0, TalliedWindows.NONE);
        would(x, 3, 1, 1, 0, 1, 0, 0);
        x.dot(1, 0, 0x20);
        due.is("how many are below a masked grey", x.would(0, 1, 0, 2), 1);
    }

    private static void refusesWould() {
        TalliedWindows x = Due.withPicture("1020");
        due.is("would without filters", x.would(0, 0, 0, 0), TalliedWindows.UNKNOWN);
        x.filter(1, 1, 50, 0, 1);
        due.is("would(1, 0, 0, 0)", x.would(1, 0, 0, 0), TalliedWindows.UNKNOWN);
        due.is("would(-1, 0, 0, 0)", x.would(-1, 0, 0, 0), TalliedWindows.UNKNOWN);
        due.is("would(0, 2, 0, 0)", x.would(0, 2, 0, 0), TalliedWindows.UNKNOWN);
        due.is("would(0, 0, 1, 9)", x.would(0, 0, 1, 9), TalliedWindows.UNKNOWN);
        due.is("would(0, 0, 0, 4)", x.would(0, 0, 0, 4), TalliedWindows.OUTSIDE);
        due.is("would(0, 0, 0, -1)", x.would(0, 0, 0, -1), TalliedWindows.OUTSIDE);
    }

    private static void countsBins() {
        TalliedWindows x = Due.withPicture("001f--f0ff");
        x.filter(0, 0, 0, 0, 1);
        // 0 and 0, 1 and 15, 15 and 0, 15 and 15, with 2 each
        due.is("bins(0)", x.bins(0), 2 + 18 + 17 + 32);
        x.filter(4, 0, 100, 0, 1);
        due.is("bins(1)", x.bins(1), 4 * 32);
        due.is("bins(2)", x.bins(2), TalliedWindows.UNKNOWN);
        due.is("bins(-1)", x.bins(-1), TalliedWindows.UNKNOWN);
        x = Due.withPicture("--");
        x.filter(0, 0, 0, 4, 1);
        due.is("bins(0), all masked", x.bins(0), 0);
    }

    private static void countsSpikes() {
        TalliedWindows x = Due.withPicture("10101810--00");
        x.filter(2, 0, 50, 1, 1);
        // the lasts: 10 10 10 10 .. 00
        due.is("spikes(0, 0)", x.spikes(0, 0), 1);
        due.is("spikes(0, 7)", x.spikes(0, 7), 1);
        due.is("spikes(0, 8)", x.spikes(0, 8), 0);
        x.filter(4, 0, 100, 0, 1);
        // the lasts: 18 everywhere; below them by 8 8 0 8 .. 18
        due.is("spikes(1, 0)", x.spikes(1, 0), 4);
        due.is("spikes(1, 8)", x.spikes(1, 8), 1);
        due.is("spikes(1, 23)", x.spikes(1, 23), 1);
        due.is("spikes(1, 24)", x.spikes(1, 24), 0);
        due.is("spikes(1, 255)", x.spikes(1, 255), 0);
        due.is("spikes(1, 256)", x.spikes(1, 256), TalliedWindows.OUTSIDE);
        due.is("spikes(1, -1)", x.spikes(1, -1), TalliedWindows.OUTSIDE);
        due.is("spikes(2, -1)", x.spikes(2, -1), TalliedWindows.UNKNOWN);
        due.is("told(11), spikes and bins are no deeds", x.told(11), 1);
    }
}
