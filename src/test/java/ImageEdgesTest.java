/**
 * "IMAGES 0, 1 keep THE PICTURE, FILTERS, FILL, THE SEED": not kept and kept, kept again, no and six filters, the least
 * and the greatest picture, and how two pictures are held against each other.
 */
public final class ImageEdgesTest {
    private static final Due due = new Due();

    public static void main(String[] args) {
        hasTwoImages();
        hasNoneAtFirst();
        keepsWhatIsSoAtFirst();
        keepsNoAndSixFilters();
        keepsTheLeastAndTheGreatestPicture();
        keepsFillAndSeed();
        keepsWhatLaterCallsDoNotReach();
        keepsAgain();
        leavesTextFaultAndBook();
        holdsAgainstEachDot();
        holdsAgainstMasks();
        holdsAgainstOtherSizes();
        due.end();
    }

    private static void hasTwoImages() {
        TalliedWindows x = new TalliedWindows();
        due.is("keep(-1)", x.keep(-1), TalliedWindows.UNKNOWN);
        due.is("keep(0)", x.keep(0), 1);
        due.is("keep(1)", x.keep(1), 1);
        due.is("keep(2)", x.keep(2), TalliedWindows.UNKNOWN);
        due.is("goBack(-1)", x.goBack(-1), TalliedWindows.UNKNOWN);
        due.is("goBack(0)", x.goBack(0), 1);
        due.is("goBack(1)", x.goBack(1), 1);
        due.is("goBack(2)", x.goBack(2), TalliedWindows.UNKNOWN);
        due.is("against(-1)", x.against(-1), TalliedWindows.UNKNOWN);
        due.is("against(0)", x.against(0), 0);
        due.is("against(1)", x.against(1), 0);
        due.is("against(2)", x.against(2), TalliedWindows.UNKNOWN);
    }

    /** "NOT: it was not kept", of each apart. */
    private static void hasNoneAtFirst() {
        for (int kept = 0; kept < 2; kept++) {
            TalliedWindows x = new TalliedWindows();
            due.is("goBack(" + kept + ")", x.goBack(kept), TalliedWindows.NOT);
            due.is("against(" + kept + ")", x.against(kept), TalliedWindows.NOT);
            x.keep(kept);
            due.is("goBack(" + kept + "), kept", x.goBack(kept), 1);
            due.is("against(" + kept + "), kept", x.against(kept), 0);
            due.is("goBack of the other", x.goBack(1 - kept), TalliedWindows.NOT);
            due.is("against the other", x.against(1 - kept), TalliedWindows.NOT);
        }
    }

    private static void keepsWhatIsSoAtFirst() {
        TalliedWindows x = new TalliedWindows();
        x.keep(0);
        Due.feedAll(x, "1020/30--");
        x.picture();
        x.filter(1, 1, 50, 0, 1);
        x.fill(9);
        x.seed(9);
        x.goBack(0);
        due.shows("goBack(0)", x, "00");
        due.is("filters", x.told(7), 0);
        due.is("FILL", x.told(8), 0);
        due.is("the seed", x.seed(0), 0);
    }

    private static void keepsNoAndSixFilters() {
        TalliedWindows x = new TalliedWindows();
        x.keep(0);
        for (int f = 0; f < 6; f++) {
            x.filter(0, 0, 0, 0, 1 + f);
        }
        x.keep(1);
        x.drop(2);
        x.goBack(0);
        due.is("no filters", x.told(7), 0);
        due.is("would by none", x.would(0, 0, 0, 1), TalliedWindows.UNKNOWN);
        due.is("all() by none", x.all(), TalliedWindows.NOT);
        x.filter(0, 0, 0, 0, 9);
        x.goBack(1);
        due.is("six filters", x.told(7), 6);
        for (int f = 0; f < 6; f++) {
            due.is("filter " + f, x.would(f, 0, 0, 1), 1 + f);
        }
        due.is("a seventh", x.filter(0, 0, 0, 0, 1), TalliedWindows.FULL);
    }

    private static void keepsTheLeastAndTheGreatestPicture() {
        TalliedWindows x = Due.withPicture("0102030405060708090a" + "/ff--ff--ff--ff--ff--".repeat(7));
        x.keep(1);
        Due.feedAll(x, "--");
        x.picture();
        x.keep(0);
        due.is("against(1) of another size", x.against(1), TalliedWindows.NONE);
        x.goBack(1);
        due.is("against(1)", x.against(1), 0);
        due.is("against(0) of another size", x.against(0), TalliedWindows.NONE);
        due.is("masks", x.told(2), 35);
        x.goBack(0);
        due.shows("the least picture", x, "(00)");
        x.goBack(1);
        due.shows("the greatest picture", x, "0102030405060708090a" + "/ff(00)ff(00)ff(00)ff(00)ff(00)".repeat(7));
    }

    private static void keepsFillAndSeed() {
        int[] seeds = {0, 1, 2147483647};
        int[] fills = {0, 255, 128};
        for (int i = 0; i < 3; i++) {
            TalliedWindows x = new TalliedWindows();
            x.seed(seeds[i]);
            x.fill(fills[i]);
            x.keep(i % 2);
            x.seed(77);
            x.fill(77);
            x.noise(2);
            x.goBack(i % 2);
            due.is("FILL " + fills[i], x.told(8), fills[i]);
            due.is("seed " + seeds[i], x.seed(5), seeds[i]);
            x.goBack(i % 2);
            due.is("seed " + seeds[i] + " again", x.seed(5), seeds[i]);
        }
    }

    /** What comes behind keep() or goBack() is not so in the image. */
    private static void keepsWhatLaterCallsDoNotReach() {
        TalliedWindows x = Due.withPicture("1020");
        x.filter(0, 0, 0, 0, 2);
        x.filter(0, 0, 0, 0, 3);
        x.keep(0);
        for (int round = 0; round < 3; round++) {
            x.dot(0, 0, 0x99);
            x.mask(1, 0, true);
            x.drop(0);
            x.filter(0, 0, 0, 0, 8);
            due.is("against(0) in round " + round, x.against(0), 2);
            due.is("goBack(0) in round " + round, x.goBack(0), 1);
            due.shows("goBack(0) in round " + round, x, "1020");
            due.is("filters in round " + round, x.told(7), 2);
            due.is("filter 0 in round " + round, x.would(0, 0, 0, 1), 2);
            due.is("filter 1 in round " + round, x.would(1, 0, 0, 1), 3);
        }
    }

    private static void keepsAgain() {
        TalliedWindows x = Due.withPicture("1020");
        x.keep(0);
        x.dot(0, 0, 0x30);
        x.keep(0);
        due.is("against(0) kept again", x.against(0), 0);
        x.dot(0, 0, 0x40);
        x.goBack(0);
        due.shows("goBack(0) kept again", x, "3020");
        x.keep(1);
        x.dot(0, 0, 0x50);
        x.keep(0);
        x.goBack(1);
        due.shows("goBack(1), the other", x, "3020");
        x.goBack(0);
        due.shows("goBack(0), the one", x, "5020");
    }

    private static void leavesTextFaultAndBook() {
        TalliedWindows x = Due.withPicture("1020");
        x.keep(0);
        Due.feedAll(x, "1x");
        x.picture();
        Due.feedAll(x, "5");
        x.write(0, 0, 1);
        x.goBack(0);
        due.is("fault()", x.fault(), 1);
        due.is("letters", x.told(6), 1);
        due.is("entries", x.told(9), 1);
        x.feed('6');
        due.is("picture() of the text that stayed", x.picture(), 1);
        due.shows("the text that stayed", x, "56");
    }

    // ---- "How many DOTS have another GREY, or are MASKED in one alone; NONE: W or H is another there"

    private static void holdsAgainstEachDot() {
        TalliedWindows x = Due.withPicture(Due.rows("77", 10, 8));
        x.keep(0);
        due.is("against(0), the same", x.against(0), 0);
        for (int i = 0; i < 80; i++) {
            x.dot(i % 10, i / 10, i % 2 == 0 ? 0x76 : 0x78);
            due.is("against(0) behind dot " + i, x.against(0), i + 1);
        }
        x.goBack(0);
        due.is("against(0), the same again", x.against(0), 0);
    }

    /** Masked in one alone; masked in both with another grey; masked and of another grey is one. */
    private static void holdsAgainstMasks() {
        TalliedWindows x = Due.withPicture("--50");
        x.keep(0);
        x.mask(0, 0, false);
        due.is("masked there alone", x.against(0), 1);
        x.mask(1, 0, true);
        due.is("masked here alone, too", x.against(0), 2);
        x.mask(0, 0, true);
        due.is("masked in both", x.against(0), 1);
        x.dot(0, 0, 1);
        due.is("masked in both with another grey", x.against(0), 2);
        x.dot(1, 0, 1);
        due.is("masked here alone with another grey", x.against(0), 2);
    }

    private static void holdsAgainstOtherSizes() {
        TalliedWindows x = Due.withPicture("000000/000000");
        x.keep(0);
        String[] others = {"000000", "000000/000000/000000", "0000/0000", "00000000/00000000", "0000/0000/0000", "000000000000"};
        for (String other : others) {
            Due.feedAll(x, other);
            x.picture();
            due.is("against(0) of " + other, x.against(0), TalliedWindows.NONE);
        }
        due.is("against is no deed", x.told(11), 6);
        x.undo(6);
        due.is("against(0) of the same size", x.against(0), 0);
    }
}
