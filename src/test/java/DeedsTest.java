/** Promises 14 to 19: dot, mask, turn, filtered, all, until. */
public final class DeedsTest {
    private static final Due due = new Due();

    public static void main(String[] args) {
        setsDots();
        masksDots();
        turns();
        refusesTurns();
        filters();
        filtersByAll();
        filtersUntil();
        due.end();
    }

    private static void setsDots() {
        TalliedWindows x = Due.withPicture("1020/30--");
        due.is("dot(1, 0, 255)", x.dot(1, 0, 255), 0x20);
        due.is("dot(0, 1, 0)", x.dot(0, 1, 0), 0x30);
        due.is("dot(1, 1, 7), masked", x.dot(1, 1, 7), 0);
        due.shows("dots", x, "10ff/00(07)");
        due.is("dot(0, 0, 16), as it was", x.dot(0, 0, 16), 16);
        due.is("told(11)", x.told(11), 5);
        due.is("dot(0, 0, 256)", x.dot(0, 0, 256), TalliedWindows.OUTSIDE);
        due.is("dot(0, 0, -1)", x.dot(0, 0, -1), TalliedWindows.OUTSIDE);
        due.is("dot(2, 0, -1)", x.dot(2, 0, -1), TalliedWindows.UNKNOWN);
        due.is("dot(0, 2, 0)", x.dot(0, 2, 0), TalliedWindows.UNKNOWN);
        due.is("told(11) behind refusals", x.told(11), 5);
        due.shows("refused dots", x, "10ff/00(07)");
    }

    private static void masksDots() {
        TalliedWindows x = Due.withPicture("1020/30--");
        due.is("mask(0, 1, true)", x.mask(0, 1, true), 2);
        due.is("mask(0, 1, true) again", x.mask(0, 1, true), 2);
        due.shows("masks", x, "1020/(30)(00)");
        due.is("mask(1, 1, false)", x.mask(1, 1, false), 1);
        due.is("mask(0, 1, false)", x.mask(0, 1, false), 0);
        due.is("mask(0, 1, false) again", x.mask(0, 1, false), 0);
        due.shows("masks taken away", x, "1020/3000");
        due.is("mask(2, 0, true)", x.mask(2, 0, true), TalliedWindows.UNKNOWN);
        due.is("mask(0, -1, true)", x.mask(0, -1, true), TalliedWindows.UNKNOWN);
        due.is("told(11)", x.told(11), 6);
    }

    private static void turns() {
        TalliedWindows x = Due.withPicture("010203/04--06");
        due.is("turn(0)", x.turn(0), 3);
        due.shows("turn(0)", x, "030201/06(00)04");
        due.is("turn(1)", x.turn(1), 3);
        due.shows("turn(1)", x, "06(00)04/030201");
        due.is("turn(2)", x.turn(2), 2);
        due.shows("turn(2)", x, "0603/(00)02/0401");
        due.is("turn(3)", x.turn(3), 2);
        due.shows("turn(3)", x, "f9fc/(ff)fd/fbfe");
        due.is("told(11)", x.told(11), 5);
        due.is("turn(2) back", x.turn(2), 3);
        due.shows("turn(2) back", x, "f9(ff)fb/fcfdfe");
        x = Due.withPicture("0102--04/05060708/090a0b0c");
        x.turn(0);
        due.shows("turn(0) of four by three", x, "04(00)0201/08070605/0c0b0a09");
        x.turn(1);
        due.shows("turn(1) of four by three", x, "0c0b0a09/08070605/04(00)0201");
    }

    private static void refusesTurns() {
        TalliedWindows x = Due.withPicture("010203040506070809/010203040506070809");
        due.is("turn(2) of nine by two", x.turn(2), TalliedWindows.NOT);
        due.is("turn(4)", x.turn(4), TalliedWindows.OUTSIDE);
        due.is("turn(-1)", x.turn(-1), TalliedWindows.OUTSIDE);
        due.shows("refused turns", x, "010203040506070809/010203040506070809");
        due.is("told(11)", x.told(11), 1);
        due.is("turn(0) of nine by two", x.turn(0), 9);
        x = Due.withPicture("0102030405060708");
        due.is("turn(2) of eight by one", x.turn(2), 1);
        due.shows("eight by one", x, "01/02/03/04/05/06/07/08");
        due.is("turn(2) of one by eight", x.turn(2), 8);
    }

    private static void filters() {
        TalliedWindows x = Due.withPicture("102030ff30--00");
        x.filter(1, 0, 100, 0, 1);
        x.filter(1, 0, 0, 0, 1);
        x.filter(0, 0, 50, 0, 1);
        // all at once: the ff reaches but its neighbours
        due.is("filtered(0)", x.filtered(0), 4);
        due.shows("filtered(0)", x, "2030ffffff(00)00");
        due.is("filtered(1)", x.filtered(1), 2);
        due.shows("filtered(1)", x, "202030ffff(00)00");
        due.is("filtered(2)", x.filtered(2), 0);
        due.is("told(11)", x.told(11), 4);
        due.is("filtered(3)", x.filtered(3), TalliedWindows.UNKNOWN);
        due.is("filtered(-1)", x.filtered(-1), TalliedWindows.UNKNOWN);
        x.dot(5, 0, 9);
        x.mask(5, 0, true);
        x.filtered(0);
        due.is("a masked dot behind filtered(0)", x.at(5, 0, 0), 9);
    }

    private static void filtersByAll() {
        TalliedWindows x = Due.withPicture("1020301010--");
        due.is("all() without filters", x.all(), TalliedWindows.NOT);
        due.is("told(11)", x.told(11), 1);
        x.filter(1, 0, 100, 0, 1);
        x.filter(1, 0, 0, 0, 1);
        // 20 30 30 30 10, and then 20 20 30 10 10: one grey came back
        due.is("all()", x.all(), 1);
        due.shows("all()", x, "2020301010(00)");
        due.is("told(11) behind all()", x.told(11), 2);
        due.is("undo(1) of all()", x.undo(1), 1);
        due.shows("all() undone", x, "1020301010(00)");
        x.drop(0);
        due.is("all() by the second alone", x.all(), 2);
        due.shows("all() by the second alone", x, "1010101010(00)");
    }

    private static void filtersUntil() {
        TalliedWindows x = Due.withPicture("100000000000");
        x.filter(1, 0, 100, 0, 1);
        due.is("until(0, 2)", x.until(0, 2), 2);
        due.shows("until(0, 2)", x, "101010000000");
        due.is("told(11)", x.told(11), 2);
        due.is("until(0, 20)", x.until(0, 20), 3);
        due.shows("until(0, 20)", x, "101010101010");
        due.is("until(0, 1), nothing changes", x.until(0, 1), 0);
        due.is("told(11), nothing changed", x.told(11), 4);
        due.is("until(0, 0)", x.until(0, 0), TalliedWindows.OUTSIDE);
        due.is("until(0, 21)", x.until(0, 21), TalliedWindows.OUTSIDE);
        due.is("until(1, 0)", x.until(1, 0), TalliedWindows.UNKNOWN);
        due.is("until(-1, 1)", x.until(-1, 1), TalliedWindows.UNKNOWN);
        due.is("told(11) behind refusals", x.told(11), 4);
        due.is("undo(2)", x.undo(2), 2);
        due.shows("until(0, 20) undone at once", x, "101010000000");
        // a chequered row goes to and fro under the window of its neighbours
        x = Due.withPicture("00ff00ff");
        x.filter(1, 0, 50, 3, 1);
        due.is("until(0, 20), to and fro", x.until(0, 20), 20);
        due.shows("until(0, 20), to and fro", x, "00ff00ff");
        due.is("until(0, 19), to and fro", x.until(0, 19), 19);
        due.shows("until(0, 19), to and fro", x, "ff00ff00");
    }
}
