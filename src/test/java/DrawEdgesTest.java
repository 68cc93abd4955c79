/**
 * "BY DRAWS": the seed's bounds and its wrap-around by 2 to the 31, draws that fall on the first and the last dot and
 * grey, 1 and 12 times. The numbers due were reckoned outside Java, with whole numbers of any length.
 */
public final class DrawEdgesTest {
    private static final Due due = new Due();

    public static void main(String[] args) {
        setsTheSeedBetweenItsBounds();
        beginsWithSeedNought();
        drawsFromTheGreatestSeed();
        comesToTheLeastAndTheGreatestSeed();
        fallsOnEachCorner();
        drawsTheLeastAndTheGreatestGrey();
        drawsTwelveTimes();
        drawsOnceOrTwelveTimes();
        fallsOnMaskedDots();
        goesOnFromTheSeed();
        due.end();
    }

    private static TalliedWindows greatest() {
        return Due.withPicture(Due.rows("77", 10, 8));
    }

    private static int seedOf(TalliedWindows x) {
        int was = x.seed(0);
        x.seed(was);
        return was;
    }

    /** One speck on ten by eight: where it falls, what grey it gives, what seed it leaves. */
    private static void speck(int seed, int column, int row, int grey, int then) {
        TalliedWindows x = greatest();
        x.seed(seed);
        due.is("noise(1) from " + seed, x.noise(1), then);
        due.is("the speck from " + seed, x.at(column, row, 0), grey);
        due.is("the greys behind noise(1) from " + seed, x.told(5), 79 * 0x77 + grey);
        due.is("the seed behind noise(1) from " + seed, seedOf(x), then);
        due.is("deeds behind noise(1) from " + seed, x.told(11), 2);
    }

    /** "THE SEED becomes v (0 .. 2147483647): what it was". */
    private static void setsTheSeedBetweenItsBounds() {
        TalliedWindows x = new TalliedWindows();
        due.is("seed(0)", x.seed(0), 0);
        due.is("seed(2147483647)", x.seed(2147483647), 0);
        due.is("seed(-1)", x.seed(-1), TalliedWindows.OUTSIDE);
        due.is("seed(-2147483648)", x.seed(Integer.MIN_VALUE), TalliedWindows.OUTSIDE);
        due.is("seed(1)", x.seed(1), 2147483647);
        due.is("seed(0)", x.seed(0), 1);
        due.is("no deed", x.told(11), 0);
    }

    private static void beginsWithSeedNought() {
        TalliedWindows x = new TalliedWindows();
        // 12345, 1406932606, 654583775: kind 654583775 / 65536 = 9988, left over by 3: 1
        due.is("noise(1) of a new object", x.noise(1), 654583775);
        due.shows("noise(1) of a new object", x, "ff");
        speck(0, 0, 4, 255, 654583775);
        speck(1, 8, 6, 0, 662824084);
        speck(5, 5, 1, 133, 2089129857);
    }

    /** "left over by 2 to the 31": the product is far beyond an int. */
    private static void drawsFromTheGreatestSeed() {
        TalliedWindows x = new TalliedWindows();
        x.seed(2147483647);
        // 1043980748, 288979989, 646343466: 646343466 / 65536 = 9862, left over by 3: 1
        due.is("noise(1) from 2147483647", x.noise(1), 646343466);
        due.shows("noise(1) from 2147483647", x, "ff");
    }

    private static void comesToTheLeastAndTheGreatestSeed() {
        speck(80477501, 1, 7, 0, 0);
        speck(1486203808, 9, 5, 255, 2147483647);
    }

    private static void fallsOnEachCorner() {
        speck(14, 0, 0, 0, 769948101);
        speck(103, 9, 0, 255, 1503335602);
        speck(72, 0, 7, 0, 1247886023);
        speck(29, 9, 7, 33, 1294041369);
    }

    /** "or what a further DRAW of 256 tells (2)". */
    private static void drawsTheLeastAndTheGreatestGrey() {
        speck(3610, 6, 1, 0, 1577120230);
        speck(142, 3, 5, 255, 1577031578);
    }

    private static void drawsTwelveTimes() {
        int[][] specks = {{0, 4, 255}, {7, 2, 255}, {5, 5, 218}, {1, 4, 255}, {8, 7, 0}, {8, 1, 253}, {6, 7, 255}, {1, 0, 4},
            {2, 4, 0}, {4, 3, 0}, {6, 3, 0}, {2, 7, 255}};
        TalliedWindows x = greatest();
        due.is("noise(12)", x.noise(12), 392166107);
        int together = 68 * 0x77;
        for (int[] speck : specks) {
            due.is("the speck at " + speck[0] + ", " + speck[1], x.at(speck[0], speck[1], 0), speck[2]);
            together += speck[2];
        }
        due.is("the greys together", x.told(5), together);
        due.is("deeds", x.told(11), 13);
    }

    private static void drawsOnceOrTwelveTimes() {
        int[] seeds = {654583775, 1109335178, 551188310, 370913197, 1695770928, 1157490780, 1511588075, 956612807,
            371038354, 88489753, 1194991756, 392166107};
        for (int n = 1; n <= 12; n++) {
            TalliedWindows x = greatest();
            due.is("noise(" + n + ")", x.noise(n), seeds[n - 1]);
            due.is("deeds behind noise(" + n + ")", x.told(11), 1 + n);
        }
        TalliedWindows x = greatest();
        due.is("noise(0)", x.noise(0), TalliedWindows.OUTSIDE);
        due.is("noise(13)", x.noise(13), TalliedWindows.OUTSIDE);
        due.is("noise(-1)", x.noise(-1), TalliedWindows.OUTSIDE);
        due.is("the seed behind refusals", seedOf(x), 0);
        due.is("deeds behind refusals", x.told(11), 1);
    }

    /** "DOT x, y (MASKED or not) has the GREY": and is masked as it was. */
    private static void fallsOnMaskedDots() {
        TalliedWindows x = Due.withPicture("--");
        x.noise(1);
        due.shows("a speck on a masked dot", x, "(ff)");
        x.undo(1);
        due.shows("the speck undone", x, "(00)");
    }

    private static void goesOnFromTheSeed() {
        TalliedWindows x = greatest();
        x.noise(5);
        due.is("noise(7) behind noise(5)", x.noise(7), 392166107);
        x.undo(12);
        due.is("the seed stays when noise is undone", seedOf(x), 392166107);
        x.seed(1695770928);
        due.is("noise(7) from the seed of noise(5)", x.noise(7), 392166107);
    }
}
