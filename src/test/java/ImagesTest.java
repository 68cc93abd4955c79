/** Promises 25, 26, 27: keep, goBack, against. */
public final class ImagesTest {
    private static final Due due = new Due();

    public static void main(String[] args) {
        keepsAndGoesBack();
        keepsTwoApart();
        holdsAgainst();
        refusesImages();
        due.end();
    }

    private static void keepsAndGoesBack() {
        TalliedWindows x = Due.withPicture("1020/30--");
        x.filter(1, 0, 0, 0, 1);
        x.filter(1, 0, 100, 0, 1);
        x.fill(7);
        x.seed(8);
        due.is("keep(0)", x.keep(0), 1);
        due.is("told(11) behind keep(0)", x.told(11), 0);
        due.is("undo(1) behind keep(0)", x.undo(1), TalliedWindows.NOT);
        x.feed('0');
        x.write(0, 0, 1);
        x.turn(2);
        x.mask(0, 0, true);
        x.drop(0);
        x.filter(0, 0, 0, 0, 1);
        x.filter(0, 0, 0, 0, 1);
        x.fill(9);
        x.noise(3);
        due.is("goBack(0)", x.goBack(0), 1);
        due.is("told(11) behind goBack(0)", x.told(11), 0);
        due.shows("goBack(0)", x, "1020/30(00)");
        due.is("filters", x.told(7), 2);
        due.is("filter 0", x.would(0, 0, 0, 0), 0x10);
        due.is("filter 1", x.would(1, 0, 0, 0), 0x20);
        due.is("fill", x.told(8), 7);
        due.is("the text stays", x.told(6), 1);
        due.is("the book stays", x.told(9), 1);
        due.is("the seed", x.seed(1), 8);
        x.dot(0, 0, 0x77);
        x.drop(1);
        due.is("goBack(0), a second time", x.goBack(0), 1);
        due.shows("goBack(0), a second time", x, "1020/30(00)");
        due.is("filters, a second time", x.told(7), 2);
        due.is("filter 1, a second time", x.would(1, 0, 0, 0), 0x20);
        due.is("the seed, a second time", x.seed(1), 8);
    }

    private static void keepsTwoApart() {
        TalliedWindows x = Due.withPicture("11");
        x.keep(1);
        due.is("goBack(0), not kept", x.goBack(0), TalliedWindows.NOT);
        x.dot(0, 0, 0x22);
        x.keep(0);
        x.dot(0, 0, 0x33);
        x.goBack(1);
        due.shows("goBack(1)", x, "11");
        x.goBack(0);
        due.shows("goBack(0)", x, "22");
        x.keep(1);
        x.dot(0, 0, 0x44);
        x.goBack(1);
        due.shows("goBack(1), kept again", x, "22");
    }

    private static void holdsAgainst() {
        TalliedWindows x = Due.withPicture("1020--/405060");
        x.keep(1);
        due.is("against(1), the same", x.against(1), 0);
        x.dot(0, 0, 0x11);
        due.is("against(1), a grey", x.against(1), 1);
        x.mask(1, 0, true);
        due.is("against(1), a mask too", x.against(1), 2);
        x.mask(2, 0, false);
        due.is("against(1), a mask less", x.against(1), 3);
        x.dot(2, 0, 9);
        x.mask(0, 0, true);
        due.is("against(1), grey and mask of one dot", x.against(1), 3);
        due.is("told(11), against is no deed", x.told(11), 5);
        x.turn(2);
        due.is("against(1), two by three", x.against(1), TalliedWindows.NONE);
        Due.feedAll(x, "1020--");
        x.picture();
        due.is("against(1), three by one", x.against(1), TalliedWindows.NONE);
        Due.feedAll(x, "1020/4050");
        x.picture();
        due.is("against(1), two by two", x.against(1), TalliedWindows.NONE);
    }

    private static void refusesImages() {
        TalliedWindows x = new TalliedWindows();
        x.dot(0, 0, 1);
        int[] unknown = {-1, 2, Integer.MIN_VALUE, Integer.MAX_VALUE};
        for (int i : unknown) {
            due.is("keep(" + i + ")", x.keep(i), TalliedWindows.UNKNOWN);
            due.is("goBack(" + i + ")", x.goBack(i), TalliedWindows.UNKNOWN);
            due.is("against(" + i + ")", x.against(i), TalliedWindows.UNKNOWN);
        }
        due.is("goBack(1), not kept", x.goBack(1), TalliedWindows.NOT);
        due.is("against(1), not kept", x.against(1), TalliedWindows.NOT);
        due.is("told(11) behind refusals", x.told(11), 1);
        due.shows("refusals", x, "01");
    }
}
