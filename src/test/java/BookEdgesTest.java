/** "THE BOOK (20 at most) tells the GREY of a DOT": empty and full, any grey, which entry is wrong, dots that are no more. */
public final class BookEdgesTest {
    private static final Due due = new Due();

    public static void main(String[] args) {
        holdsNone();
        holdsTwenty();
        writesAnyGrey();
        findsTheFirstWrongOne();
        judgesTheFirstAndTheLastDot();
        judgesMaskedDots();
        judgesDotsThatAreNoMore();
        judgesThePictureAsItIsNow();
        staysWithImages();
        due.end();
    }

    private static void holdsNone() {
        TalliedWindows x = new TalliedWindows();
        due.is("entries at first", x.told(9), 0);
        due.is("WRONG at first", x.told(10), TalliedWindows.NONE);
        due.is("tear() at first", x.tear(), 0);
        due.is("the first entry", x.write(0, 0, 5), 1);
        due.is("WRONG is the first", x.told(10), 0);
        due.is("tear() of one", x.tear(), 1);
        due.is("WRONG of none", x.told(10), TalliedWindows.NONE);
        due.is("tear() of none", x.tear(), 0);
    }

    /** 20 come in, the 21st does not; and again behind tear(). */
    private static void holdsTwenty() {
        TalliedWindows x = new TalliedWindows();
        for (int round = 0; round < 2; round++) {
            for (int n = 1; n <= 20; n++) {
                due.is("entry " + n + " in round " + round, x.write(0, 0, n < 20 ? 0 : 7), n);
            }
            due.is("entry 21 in round " + round, x.write(0, 0, 0), TalliedWindows.FULL);
            due.is("entry 21 of no dot in round " + round, x.write(1, 0, 0), TalliedWindows.UNKNOWN);
            due.is("entries in round " + round, x.told(9), 20);
            due.is("WRONG is the last in round " + round, x.told(10), 19);
            due.is("tear() in round " + round, x.tear(), 20);
        }
        due.is("the first entry behind tear()", x.write(0, 0, 0), 1);
        due.is("WRONG behind tear()", x.told(10), TalliedWindows.NONE);
    }

    /** "DOT x, y has the GREY g, any": also one that no dot can have. */
    private static void writesAnyGrey() {
        int[] greys = {-1, 256, Integer.MIN_VALUE, Integer.MAX_VALUE, -1000000001};
        for (int grey : greys) {
            TalliedWindows x = Due.withPicture("00ff");
            due.is("write(0, 0, 0)", x.write(0, 0, 0), 1);
            due.is("write(1, 0, 255)", x.write(1, 0, 255), 2);
            due.is("WRONG with greys that can be", x.told(10), TalliedWindows.NONE);
            due.is("write(0, 0, " + grey + ")", x.write(0, 0, grey), 3);
            due.is("WRONG with " + grey, x.told(10), 2);
        }
    }

    private static void findsTheFirstWrongOne() {
        TalliedWindows x = Due.withPicture("0102030405060708090a");
        for (int i = 0; i < 20; i++) {
            x.write(i % 10, 0, i % 10 + 1);
        }
        due.is("WRONG, none is", x.told(10), TalliedWindows.NONE);
        for (int column = 9; column >= 0; column--) {
            x.dot(column, 0, 0);
            due.is("WRONG, from " + column + " on", x.told(10), column);
        }
        for (int column = 0; column < 10; column++) {
            due.is("WRONG as long as " + column + " is", x.told(10), column);
            x.dot(column, 0, column + 1);
        }
        due.is("WRONG, none is again", x.told(10), TalliedWindows.NONE);
        // two entries of one dot, of which one must be wrong
        x.tear();
        x.write(3, 0, 4);
        x.write(3, 0, 5);
        due.is("WRONG of two of one dot", x.told(10), 1);
        x.dot(3, 0, 5);
        due.is("WRONG of two of one dot set", x.told(10), 0);
    }

    private static void judgesTheFirstAndTheLastDot() {
        TalliedWindows x = Due.withPicture(Due.rows("77", 10, 8));
        due.is("write(0, 0, 0x77)", x.write(0, 0, 0x77), 1);
        due.is("write(9, 7, 0x77)", x.write(9, 7, 0x77), 2);
        due.is("write(10, 7, 0x77)", x.write(10, 7, 0x77), TalliedWindows.UNKNOWN);
        due.is("write(9, 8, 0x77)", x.write(9, 8, 0x77), TalliedWindows.UNKNOWN);
        due.is("write(-1, 0, 0x77)", x.write(-1, 0, 0x77), TalliedWindows.UNKNOWN);
        due.is("write(0, -1, 0x77)", x.write(0, -1, 0x77), TalliedWindows.UNKNOWN);
        due.is("entries", x.told(9), 2);
        due.is("WRONG", x.told(10), TalliedWindows.NONE);
        x.dot(9, 7, 0x78);
        due.is("WRONG, the last dot", x.told(10), 1);
    }

    private static void judgesMaskedDots() {
        TalliedWindows x = Due.withPicture("55--");
        x.write(0, 0, 0x55);
        x.write(1, 0, 0);
        x.mask(0, 0, true);
        due.is("WRONG, masked with its grey", x.told(10), TalliedWindows.NONE);
        x.dot(1, 0, 1);
        due.is("WRONG, masked with another", x.told(10), 1);
    }

    /** "a DOT that there is no more: it is, too": by its x, by its y; right again when it is there again. */
    private static void judgesDotsThatAreNoMore() {
        TalliedWindows x = Due.withPicture("000000/000000");
        x.write(0, 0, 0);
        x.write(2, 0, 0);
        x.turn(2);
        due.is("WRONG, x is too great now", x.told(10), 1);
        x.tear();
        x.write(1, 2, 0);
        due.is("WRONG, it is there", x.told(10), TalliedWindows.NONE);
        x.turn(2);
        due.is("WRONG, y is too great now", x.told(10), 0);
        x.undo(1);
        due.is("WRONG, it is there again", x.told(10), TalliedWindows.NONE);
        // in a smaller picture another dot stands at the old number
        Due.feedAll(x, "00/00/00/00/00/00");
        x.picture();
        due.is("WRONG, one column is left", x.told(10), 0);
    }

    private static void judgesThePictureAsItIsNow() {
        TalliedWindows x = Due.withPicture("1020");
        x.filter(1, 0, 100, 0, 1);
        x.write(0, 0, 0x20);
        due.is("WRONG ahead of the deed", x.told(10), 0);
        x.filtered(0);
        due.is("WRONG behind the deed", x.told(10), TalliedWindows.NONE);
        x.undo(1);
        due.is("WRONG behind undo", x.told(10), 0);
        due.is("entries stay", x.told(9), 1);
    }

    private static void staysWithImages() {
        TalliedWindows x = Due.withPicture("1020");
        x.write(0, 0, 0x10);
        x.keep(0);
        x.write(1, 0, 0x21);
        x.dot(1, 0, 0x21);
        due.is("WRONG ahead of goBack", x.told(10), TalliedWindows.NONE);
        x.goBack(0);
        due.is("entries behind goBack", x.told(9), 2);
        due.is("WRONG behind goBack", x.told(10), 1);
        x.tear();
        x.goBack(0);
        due.is("entries behind tear and goBack", x.told(9), 0);
    }
}
