/**
 * "UNDONE: the latest deeds since the IMAGE (16 at most are kept)": none, one, sixteen, the seventeenth, the rounds
 * after; which calls are deeds and which are none; what comes back and what stays.
 */
public final class UndoEdgesTest {
    private static final Due due = new Due();

    public static void main(String[] args) {
        undoesNoneAtFirst();
        undoesEachNumberOfSixteen();
        forgetsTheSeventeenth();
        goesRoundManyTimes();
        undoesBetweenDeeds();
        undoesNoiseThatIsMoreThanSixteen();
        countsEachDeed();
        countsDeedsThatChangeNothing();
        countsNoRefusedDeed();
        countsNoOtherCall();
        givesSizeAndMasksBack();
        leavesAllElse();
        undoesNothingBeyondAnImage();
        due.end();
    }

    private static void undoesNoneAtFirst() {
        TalliedWindows x = new TalliedWindows();
        due.is("what can be undone at first", x.told(11), 0);
        due.is("undo(1) at first", x.undo(1), TalliedWindows.NOT);
        due.is("undo(16) at first", x.undo(16), TalliedWindows.NOT);
        due.is("undo(0) at first", x.undo(0), TalliedWindows.OUTSIDE);
        due.is("undo(17) at first", x.undo(17), TalliedWindows.OUTSIDE);
        x.dot(0, 0, 1);
        due.is("undo(2) of one", x.undo(2), TalliedWindows.NOT);
        due.is("undo(1) of one", x.undo(1), 0);
        due.shows("one undone", x, "00");
        due.is("undo(1) of none", x.undo(1), TalliedWindows.NOT);
    }

    private static TalliedWindows withDeeds(int deeds) {
        TalliedWindows x = new TalliedWindows();
        for (int g = 1; g <= deeds; g++) {
            x.dot(0, 0, g);
        }
        return x;
    }

    private static void undoesEachNumberOfSixteen() {
        for (int n = 1; n <= 16; n++) {
            TalliedWindows x = withDeeds(16);
            due.is("undo(" + n + ") of 16", x.undo(n), 16 - n);
            due.is("the grey behind undo(" + n + ")", x.at(0, 0, 0), 16 - n);
            due.is("what can be undone then", x.told(11), 16 - n);
            due.is("one more than there are", x.undo(17 - n), TalliedWindows.NOT);
        }
        due.is("undo(0) of 16", withDeeds(16).undo(0), TalliedWindows.OUTSIDE);
        due.is("undo(17) of 16", withDeeds(16).undo(17), TalliedWindows.OUTSIDE);
        due.is("undo(17) of 17", withDeeds(17).undo(17), TalliedWindows.OUTSIDE);
        due.is("undo(16) of 15", withDeeds(15).undo(16), TalliedWindows.NOT);
        due.is("undo(15) of 15", withDeeds(15).undo(15), 0);
    }

    private static void forgetsTheSeventeenth() {
        TalliedWindows x = withDeeds(17);
        due.is("what can be undone of 17", x.told(11), 16);
        due.is("undo(16) of 17", x.undo(16), 0);
        due.is("the grey ahead of the latest 16", x.at(0, 0, 0), 1);
        due.is("undo(1) of no more", x.undo(1), TalliedWindows.NOT);
    }

    private static void goesRoundManyTimes() {
        for (int deeds = 14; deeds <= 70; deeds++) {
            TalliedWindows x = withDeeds(deeds);
            int kept = Math.min(deeds, 16);
            due.is("what can be undone of " + deeds, x.told(11), kept);
            for (int left = kept - 1; left >= 0; left--) {
                due.is("undo(1) of " + deeds, x.undo(1), left);
                due.is("the grey behind it", x.at(0, 0, 0), deeds - kept + left);
            }
            due.is("undo(1) of " + deeds + ", no more", x.undo(1), TalliedWindows.NOT);
        }
    }

    /** What was undone cannot come back; the next deed stands where it stood. */
    private static void undoesBetweenDeeds() {
        TalliedWindows x = withDeeds(20);
        due.is("undo(10)", x.undo(10), 6);
        for (int g = 100; g < 112; g++) {
            x.dot(0, 0, g);
        }
        due.is("what can be undone", x.told(11), 16);
        due.is("undo(12)", x.undo(12), 4);
        due.is("the grey behind the first undo", x.at(0, 0, 0), 10);
        due.is("undo(4)", x.undo(4), 0);
        due.is("the oldest grey", x.at(0, 0, 0), 6);
    }

    private static void undoesNoiseThatIsMoreThanSixteen() {
        TalliedWindows x = Due.withPicture("777777/777777");
        TalliedWindows y = Due.withPicture("777777/777777");
        x.noise(12);
        x.noise(12);
        y.noise(8);
        due.is("what can be undone of 24 specks", x.told(11), 16);
        due.is("undo(16)", x.undo(16), 0);
        due.shows("24 specks less 16", x, Due.shown(y));
    }

    private static void countsEachDeed() {
        TalliedWindows x = new TalliedWindows();
        x.filter(0, 0, 50, 0, 1);
        Due.feedAll(x, "1020");
        int deeds = 0;
        int[] answers = {x.picture(), x.told(11), x.dot(0, 0, 1), x.told(11), x.mask(0, 0, true), x.told(11), x.turn(0), x.told(11),
            x.filtered(0), x.told(11), x.all(), x.told(11), x.until(0, 20), x.told(11), x.noise(1), x.told(11)};
        for (int i = 1; i < answers.length; i += 2) {
            deeds++;
            due.is("deeds behind call " + i / 2, answers[i], deeds);
        }
        x.noise(3);
        due.is("deeds behind noise(3)", x.told(11), deeds + 3);
    }

    /** "all that were not refused, be it that they changed nothing". */
    private static void countsDeedsThatChangeNothing() {
        TalliedWindows x = Due.withPicture("7777");
        x.filter(0, 0, 50, 0, 1);
        x.keep(0);
        Due.feedAll(x, "7777");
        x.picture();
        x.dot(0, 0, 0x77);
        x.mask(0, 0, false);
        x.turn(0);
        x.turn(1);
        x.filtered(0);
        x.all();
        x.until(0, 1);
        due.shows("nothing changed", x, "7777");
        due.is("against(0)", x.against(0), 0);
        due.is("deeds", x.told(11), 8);
        due.is("undo(8)", x.undo(8), 0);
        due.shows("nothing changed back", x, "7777");
    }

    private static void countsNoRefusedDeed() {
        TalliedWindows x = Due.withPicture("777777777777777777");
        x.keep(0);
        int[] refused = {x.dot(9, 0, 1), x.dot(0, 0, 256), x.mask(9, 0, true), x.turn(2), x.turn(4), x.filtered(0), x.all(),
            x.until(0, 1), x.noise(0), x.noise(13), x.undo(1)};
        for (int i = 0; i < refused.length; i++) {
            due.holds("refusal " + i, refused[i] <= TalliedWindows.UNKNOWN);
        }
        due.is("deeds behind refusals", x.told(11), 0);
        Due.feedAll(x, "7");
        due.is("picture() with a fault", x.picture(), -11);
        due.is("deeds behind a fault", x.told(11), 0);
    }

    private static void countsNoOtherCall() {
        TalliedWindows x = withDeeds(3);
        x.feed('7');
        x.filter(0, 0, 0, 0, 1);
        x.fill(3);
        x.drop(0);
        x.write(0, 0, 1);
        x.tear();
        x.seed(4);
        x.against(0);
        due.is("deeds behind other calls", x.told(11), 3);
        x.undo(1);
        due.is("undo is no deed", x.told(11), 2);
    }

    private static void givesSizeAndMasksBack() {
        TalliedWindows x = Due.withPicture("10--/3040/50--");
        x.turn(2);
        Due.feedAll(x, "01");
        x.picture();
        Due.feedAll(x, "ffffffffffffffffffff/ffffffffffffffffffff/ffffffffffffffffffff");
        x.picture();
        due.is("undo(1), smaller", x.undo(1), 3);
        due.shows("undo(1), smaller", x, "01");
        due.is("undo(1), greater", x.undo(1), 2);
        due.shows("undo(1), greater", x, "103050/(00)40(00)");
        due.is("undo(1), turned back", x.undo(1), 1);
        due.shows("undo(1), turned back", x, "10(00)/3040/50(00)");
        x.mask(0, 0, true);
        x.mask(1, 0, false);
        due.is("undo(2)", x.undo(2), 1);
        due.shows("masks undone", x, "10(00)/3040/50(00)");
    }

    /** "FILTERS, FILL, THE SEED, THE BOOK stay": and the text, and the fault. */
    private static void leavesAllElse() {
        TalliedWindows x = withDeeds(1);
        x.filter(0, 0, 0, 0, 5);
        x.dot(0, 0, 2);
        x.fill(9);
        x.dot(0, 0, 3);
        x.seed(44);
        x.dot(0, 0, 4);
        x.write(0, 0, 0);
        x.write(0, 0, 1);
        Due.feedAll(x, "0x");
        x.picture();
        Due.feedAll(x, "12");
        due.is("undo(4)", x.undo(4), 0);
        due.is("filters", x.told(7), 1);
        due.is("the filter's weight", x.would(0, 0, 0, 1), 5);
        due.is("FILL", x.told(8), 9);
        due.is("entries", x.told(9), 2);
        due.is("WRONG of the picture as it is", x.told(10), 1);
        due.is("letters", x.told(6), 2);
        due.is("fault()", x.fault(), 1);
        due.is("the seed", x.seed(0), 44);
    }

    /** "since the IMAGE": keep and goBack both begin anew, each of the two images. */
    private static void undoesNothingBeyondAnImage() {
        for (int image = 0; image < 2; image++) {
            TalliedWindows x = withDeeds(20);
            x.keep(image);
            due.is("what can be undone behind keep", x.told(11), 0);
            due.is("undo(1) behind keep", x.undo(1), TalliedWindows.NOT);
            x.dot(0, 0, 99);
            x.dot(0, 0, 98);
            due.is("undo(3) beyond keep", x.undo(3), TalliedWindows.NOT);
            due.is("undo(2) behind keep", x.undo(2), 0);
            due.is("the grey as kept", x.at(0, 0, 0), 20);
            x.dot(0, 0, 97);
            x.goBack(image);
            due.is("what can be undone behind goBack", x.told(11), 0);
            due.is("undo(1) behind goBack", x.undo(1), TalliedWindows.NOT);
            for (int g = 30; g < 50; g++) {
                x.dot(0, 0, g);
            }
            due.is("undo(16) behind goBack", x.undo(16), 0);
            due.is("the grey ahead of the latest 16", x.at(0, 0, 0), 33);
        }
    }
}
