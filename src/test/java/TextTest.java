/** Promises 2, 3, 4: feed, picture, fault. */
public final class TextTest {
    private static final Due due = new Due();

    public static void main(String[] args) {
        feedsLetters();
        readsPictures();
        findsWhatCannotStand();
        findsWrongWidths();
        findsTooManyRows();
        keepsAllElseWithAFault();
        due.end();
    }

    private static void feedsLetters() {
        TalliedWindows x = new TalliedWindows();
        due.is("feed(-1)", x.feed(-1), TalliedWindows.OUTSIDE);
        due.is("feed(256)", x.feed(256), TalliedWindows.OUTSIDE);
        due.is("told(6) behind refusals", x.told(6), 0);
        due.is("feed(0)", x.feed(0), 1);
        due.is("feed(255)", x.feed(255), 2);
        for (int n = 3; n <= 180; n++) {
            due.is("feed(48) as number " + n, x.feed(48), n);
        }
        due.is("feed(48) as number 181", x.feed(48), TalliedWindows.FULL);
        due.is("feed(256) as number 181", x.feed(256), TalliedWindows.OUTSIDE);
        due.is("told(6)", x.told(6), 180);
        due.is("picture()", x.picture(), -11);
        due.is("feed(48) behind picture()", x.feed(48), 1);
    }

    private static void reads(String text, int dots, String shown) {
        TalliedWindows x = new TalliedWindows();
        Due.feedAll(x, text);
        due.is("picture() of " + text, x.picture(), dots);
        due.is("fault() of " + text, x.fault(), TalliedWindows.NONE);
        due.is("told(6) behind " + text, x.told(6), 0);
        due.shows("picture() of " + text, x, shown);
    }

    private static void readsPictures() {
        reads("00", 1, "00");
        reads("--", 1, "(00)");
        reads("0123456789abcdef/fedcba9876543210", 16, "0123456789abcdef/fedcba9876543210");
        reads("10--30/--50--", 6, "10(00)30/(00)50(00)");
        reads("01/02/03/04/05/06/07/08", 8, "01/02/03/04/05/06/07/08");
        String ten = "00010203040506070809";
        reads(ten, 10, ten);
        String most = ten + "/" + ten + "/" + ten + "/" + ten + "/" + ten + "/" + ten + "/" + ten + "/" + ten;
        reads(most, 80, most);
    }

    private static void faults(String text, int number, int place) {
        TalliedWindows x = new TalliedWindows();
        Due.feedAll(x, text);
        due.is("picture() of '" + text + "'", x.picture(), -10 - number);
        due.is("fault() of '" + text + "'", x.fault(), place);
        due.is("told(6) behind '" + text + "'", x.told(6), 0);
        due.shows("the fault of '" + text + "'", x, "00");
    }

    private static void findsWhatCannotStand() {
        faults("", 1, 0);
        faults("/", 1, 0);
        faults("1", 1, 1);
        faults("-", 1, 1);
        faults("1-", 1, 1);
        faults("-1", 1, 1);
        faults("1/", 1, 1);
        faults("-/", 1, 1);
        faults("11/", 1, 3);
        faults("11//11", 1, 3);
        faults("11/2", 1, 4);
        faults("1111/2", 1, 6);
        faults("1111/2/", 1, 6);
        faults("1A", 1, 1);
        faults("g1", 1, 0);
        faults("1`", 1, 1);
        faults("1:", 1, 1);
        faults(" 11", 1, 0);
        faults("11 ", 1, 2);
        faults("11\0", 1, 2);
        faults("00/00/00/00/00/00/00/0/", 1, 22);
    }

    private static void findsWrongWidths() {
        String ten = "00000000000000000000";
        faults(ten + "1", 2, 20);
        faults(ten + "-", 2, 20);
        faults(ten + "g", 1, 20);
        faults(ten + "/" + ten + "0", 2, 41);
        faults("11/222", 2, 5);
        faults("11/22--", 2, 5);
        faults("11/22x", 1, 5);
        faults("1111/22", 2, 7);
        faults("1111/22/", 2, 7);
        faults("1111/22/3333", 2, 7);
        faults("1111/2222/33", 2, 12);
        faults("1111/22g", 1, 7);
    }

    private static void findsTooManyRows() {
        faults("00/00/00/00/00/00/00/00/", 3, 23);
        faults("00/00/00/00/00/00/00/00/00", 3, 23);
        faults("0000/0000/0000/0000/0000/0000/0000/00/", 2, 37);
        faults("00/00/00/00/00/00/00//", 1, 21);
    }

    private static void keepsAllElseWithAFault() {
        TalliedWindows x = Due.withPicture("1020/3040");
        x.write(0, 0, 0x10);
        x.filter(1, 1, 50, 0, 1);
        Due.feedAll(x, "ffffff/0");
        due.is("picture() with a fault", x.picture(), -11);
        due.shows("a fault", x, "1020/3040");
        due.is("told(11) behind a fault", x.told(11), 1);
        due.is("told(7) behind a fault", x.told(7), 1);
        due.is("told(10) behind a fault", x.told(10), TalliedWindows.NONE);
        x.feed('0');
        due.is("fault() while fed", x.fault(), 8);
        x.dot(0, 0, 1);
        due.is("fault() behind a deed", x.fault(), 8);
        x.feed('7');
        due.is("picture()", x.picture(), 1);
        due.is("fault() behind a good one", x.fault(), TalliedWindows.NONE);
        due.shows("the good one", x, "07");
        due.is("told(7) behind a good one", x.told(7), 1);
        due.is("undo(1) of picture()", x.undo(1), 2);
        due.shows("picture() undone", x, "0120/3040");
    }
}
