/**
 * "THE PICTURE: W (1 .. 10) by H (1 .. 8)" and "THE TEXT (180 letters at most)" with its FAULTS: every letter at every
 * kind of place, every size and the first too great one, the empty text and the full one.
 */
public final class TextEdgesTest {
    private static final String FIGURES = "0123456789abcdef";
    private static final String SIGNS = FIGURES + "-";

    private static final Due due = new Due();

    public static void main(String[] args) {
        readsEverySize();
        readsEveryGrey();
        readsARowFromTheLeftAndRowsFromTheTop();
        refusesAnEleventhDot();
        refusesANinthRow();
        takesEveryLetterAtTheBeginning();
        takesEveryLetterBehindAFigure();
        takesEveryLetterBehindADash();
        takesEveryLetterBehindADot();
        takesEveryLetterBehindTheTenthDot();
        takesEveryLetterAtTheBeginningOfALaterRow();
        takesEveryLetterBehindAFullLaterRow();
        takesEveryLetterBehindAShortLaterRow();
        takesEveryLetterBehindTheEighthRow();
        findsTheEndsFaults();
        findsTheFirstFault();
        findsTheLeastOfSeveral();
        holdsAnEmptyText();
        holdsAFullText();
        emptiesTheText();
        tellsTheLatestFault();
        due.end();
    }

    private static String row(int dots) {
        return "5a".repeat(dots);
    }

    private static String rows(int dots, int count) {
        return Due.rows("5a", dots, count);
    }

    private static TalliedWindows fed(String text) {
        TalliedWindows x = new TalliedWindows();
        Due.feedAll(x, text);
        return x;
    }

    private static void reads(String text, int dots) {
        TalliedWindows x = fed(text);
        due.is("picture() of '" + text + "'", x.picture(), dots);
        due.is("fault() of '" + text + "'", x.fault(), TalliedWindows.NONE);
    }

    private static void faults(String text, int number, int place) {
        TalliedWindows x = fed(text);
        due.is("picture() of '" + text + "'", x.picture(), -10 - number);
        due.is("fault() of '" + text + "'", x.fault(), place);
    }

    // ---- W (1 .. 10) by H (1 .. 8)

    private static void readsEverySize() {
        for (int w = 1; w <= 10; w++) {
            for (int h = 1; h <= 8; h++) {
                String of = w + " by " + h;
                TalliedWindows x = fed(rows(w, h));
                due.is("picture() of " + of, x.picture(), w * h);
                due.is("W of " + of, x.told(0), w);
                due.is("H of " + of, x.told(1), h);
                due.is("the greys of " + of, x.told(5), w * h * 0x5a);
                due.is("the last dot of " + of, x.at(w - 1, h - 1, 0), 0x5a);
                due.is("beyond the last column of " + of, x.at(w, h - 1, 0), TalliedWindows.UNKNOWN);
                due.is("beyond the last row of " + of, x.at(w - 1, h, 0), TalliedWindows.UNKNOWN);
                due.is("ahead of the first column of " + of, x.at(-1, 0, 0), TalliedWindows.UNKNOWN);
                due.is("ahead of the first row of " + of, x.at(0, -1, 0), TalliedWindows.UNKNOWN);
            }
        }
    }

    /** "figures of 16 (the higher first): its GREY"; 0 .. 255. */
    private static void readsEveryGrey() {
        for (int high = 0; high < 16; high++) {
            for (int low = 0; low < 16; low++) {
                String text = "" + FIGURES.charAt(high) + FIGURES.charAt(low);
                TalliedWindows x = fed(text);
                due.is("picture() of " + text, x.picture(), 1);
                due.is("grey of " + text, x.at(0, 0, 0), high * 16 + low);
                due.is("mask of " + text, x.at(0, 0, 1), 0);
            }
        }
        TalliedWindows x = fed("ff--");
        x.picture();
        due.is("grey of --", x.at(1, 0, 0), 0);
        due.is("mask of --", x.at(1, 0, 1), 1);
    }

    private static void readsARowFromTheLeftAndRowsFromTheTop() {
        TalliedWindows x = fed("010203/040506");
        x.picture();
        for (int i = 0; i < 6; i++) {
            due.is("dot " + i, x.at(i % 3, i / 3, 0), i + 1);
        }
    }

    /** "2 an eleventh DOT of a ROW (at its first sign)". */
    private static void refusesAnEleventhDot() {
        faults(row(11), 2, 20);
        faults(row(10) + "5", 2, 20);
        faults(row(10) + "--", 2, 20);
        faults(row(11) + "/" + row(11), 2, 20);
        for (int w = 1; w <= 10; w++) {
            // "a DOT of a later ROW beyond as many as the first has (likewise)"
            faults(row(w) + "/" + row(w + 1), 2, 4 * w + 1);
            faults(row(w) + "/" + row(w) + "/" + row(w) + "-", 2, 6 * w + 2);
        }
    }

    /** "3 a ninth ROW (at its '/')". */
    private static void refusesANinthRow() {
        for (int w = 1; w <= 10; w++) {
            faults(rows(w, 8) + "/", 3, 16 * w + 7);
            faults(rows(w, 8) + "/" + row(w), 3, 16 * w + 7);
            reads(rows(w, 8), 8 * w);
        }
    }

    // ---- every letter (0 .. 255) at every kind of place

    private static boolean isFigure(int letter) {
        return FIGURES.indexOf(letter) >= 0;
    }

    private static boolean isSign(int letter) {
        return SIGNS.indexOf(letter) >= 0;
    }

    /** A first sign alone is a fault only at the end behind it. */
    private static void takesEveryLetterAtTheBeginning() {
        for (int letter = 0; letter < 256; letter++) {
            faults("" + (char) letter, 1, isSign(letter) ? 1 : 0);
        }
    }

    private static void takesEveryLetterBehindAFigure() {
        for (int letter = 0; letter < 256; letter++) {
            String text = "7" + (char) letter;
            if (isFigure(letter)) {
                reads(text, 1);
            } else {
                faults(text, 1, 1);
            }
        }
    }

    private static void takesEveryLetterBehindADash() {
        for (int letter = 0; letter < 256; letter++) {
            String text = "-" + (char) letter;
            if (letter == '-') {
                reads(text, 1);
            } else {
                faults(text, 1, 1);
            }
        }
    }

    private static void takesEveryLetterBehindADot() {
        for (int letter = 0; letter < 256; letter++) {
            faults("77" + (char) letter, 1, isSign(letter) || letter == '/' ? 3 : 2);
            faults("--" + (char) letter, 1, isSign(letter) || letter == '/' ? 3 : 2);
        }
        // a mask behind figures, and figures behind a mask, begin a new dot
        reads("77--", 2);
        reads("--77", 2);
    }

    private static void takesEveryLetterBehindTheTenthDot() {
        for (int letter = 0; letter < 256; letter++) {
            faults(row(10) + (char) letter, isSign(letter) ? 2 : 1, letter == '/' ? 21 : 20);
        }
    }

    private static void takesEveryLetterAtTheBeginningOfALaterRow() {
        for (int letter = 0; letter < 256; letter++) {
            faults("77/" + (char) letter, 1, isSign(letter) ? 4 : 3);
        }
    }

    private static void takesEveryLetterBehindAFullLaterRow() {
        for (int letter = 0; letter < 256; letter++) {
            faults("77/77" + (char) letter, isSign(letter) ? 2 : 1, letter == '/' ? 6 : 5);
        }
    }

    private static void takesEveryLetterBehindAShortLaterRow() {
        for (int letter = 0; letter < 256; letter++) {
            faults("7777/77" + (char) letter, letter == '/' ? 2 : 1, isSign(letter) ? 8 : 7);
        }
    }

    private static void takesEveryLetterBehindTheEighthRow() {
        for (int letter = 0; letter < 256; letter++) {
            faults(rows(1, 8) + (char) letter, letter == '/' ? 3 : isSign(letter) ? 2 : 1, 23);
        }
    }

    // ---- FAULTS, "at the first letter that has one (the end at the text's length), of these the least"

    private static void findsTheEndsFaults() {
        faults("", 1, 0);
        faults("7", 1, 1);
        faults("-", 1, 1);
        faults("77/", 1, 3);
        faults("77/7", 1, 4);
        for (int w = 2; w <= 10; w++) {
            faults(row(w) + "/" + row(w - 1), 2, 4 * w - 1);
            faults(row(w) + "/" + row(1), 2, 2 * w + 3);
        }
        faults(rows(10, 7) + "/" + row(9) + "5", 1, 166);
        faults(rows(10, 7) + "/" + row(9), 2, 165);
        faults(rows(10, 7) + "/", 1, 147);
        reads(rows(10, 7) + "/" + row(10), 80);
    }

    /** Of two letters that have one the first, whichever fault is less. */
    private static void findsTheFirstFault() {
        faults("77/7777x", 2, 5);
        faults("7777/77/x", 2, 7);
        faults(rows(1, 8) + "/x", 3, 23);
        faults(rows(1, 8) + "/7777", 3, 23);
        faults(rows(1, 8) + "77/", 2, 23);
        faults("7x/7777", 1, 1);
        faults(row(11) + "x", 2, 20);
    }

    /** One letter may have two faults: '/' of a ninth row behind an eighth that is empty, broken off, or too short. */
    private static void findsTheLeastOfSeveral() {
        faults(rows(2, 7) + "//", 1, 35);
        faults(rows(2, 7) + "/7/", 1, 36);
        faults(rows(2, 7) + "/777/", 1, 38);
        faults(rows(2, 7) + "/77/", 2, 37);
        faults(rows(2, 7) + "/7777/", 3, 39);
        // the beginning of a row is also a row with fewer dots than the first
        faults("7777//", 1, 5);
        faults("7777/7/", 1, 6);
    }

    // ---- the empty text and the full one

    private static void holdsAnEmptyText() {
        TalliedWindows x = new TalliedWindows();
        due.is("letters at first", x.told(6), 0);
        due.is("fault() ahead of any picture()", x.fault(), TalliedWindows.NONE);
        due.is("picture() of no letters", x.picture(), -11);
        due.is("fault() of no letters", x.fault(), 0);
        due.shows("picture() of no letters", x, "00");
        due.is("what can be undone", x.told(11), 0);
    }

    /** 180 letters: the 180th comes in, the 181st not; and again behind picture(). */
    private static void holdsAFullText() {
        TalliedWindows x = new TalliedWindows();
        for (int round = 0; round < 2; round++) {
            String text = rows(10, 8) + "/" + row(6);
            for (int i = 0; i < 180; i++) {
                due.is("letter " + (i + 1) + " in round " + round, x.feed(i < 168 ? text.charAt(i) : i), i + 1);
            }
            due.is("letter 181 in round " + round, x.feed('0'), TalliedWindows.FULL);
            due.is("letters in round " + round, x.told(6), 180);
            due.is("picture() in round " + round, x.picture(), -13);
            due.is("fault() in round " + round, x.fault(), 167);
            due.is("letters behind round " + round, x.told(6), 0);
        }
        due.is("letter 0", x.feed(0), 1);
        due.is("letter 255", x.feed(255), 2);
        due.is("letter -1", x.feed(-1), TalliedWindows.OUTSIDE);
        due.is("letter 256", x.feed(256), TalliedWindows.OUTSIDE);
        due.is("the next letter", x.feed('/'), 3);
    }

    /** "it is empty then, with a FAULT, too": nothing of a text is read with the next one. */
    private static void emptiesTheText() {
        TalliedWindows x = fed("01020304/05");
        due.is("picture() with a fault", x.picture(), -12);
        due.is("letters behind a fault", x.told(6), 0);
        Due.feedAll(x, "11/22");
        due.is("picture() of the next text", x.picture(), 2);
        due.is("letters behind a good one", x.told(6), 0);
        due.shows("the next text", x, "11/22");
        due.is("picture() at once again", x.picture(), -11);
        due.is("fault() at once again", x.fault(), 0);
        due.shows("the empty text", x, "11/22");
        Due.feedAll(x, "--");
        due.is("picture() of a smaller text", x.picture(), 1);
        due.shows("a smaller text", x, "(00)");
    }

    /** "of the latest picture()": only picture() makes it otherwise. */
    private static void tellsTheLatestFault() {
        TalliedWindows x = fed("7777/77g");
        x.keep(0);
        due.is("fault() ahead of picture()", x.fault(), TalliedWindows.NONE);
        x.picture();
        due.is("fault() behind picture()", x.fault(), 7);
        Due.feedAll(x, "77");
        x.undo(1);
        x.dot(0, 0, 3);
        x.goBack(0);
        due.is("fault() behind other calls", x.fault(), 7);
        x.picture();
        due.is("fault() behind a good picture()", x.fault(), TalliedWindows.NONE);
        Due.feedAll(x, "g");
        x.picture();
        due.is("fault() at the first letter", x.fault(), 0);
    }
}
