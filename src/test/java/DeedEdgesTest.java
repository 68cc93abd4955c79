/**
 * The edges of dot, mask, turn, filtered, all, until: the first and the last dot, all masked, the sizes that can be
 * turned and those that cannot, deeds that change nothing, 1 and 20 times.
 */
public final class DeedEdgesTest {
    private static final Due due = new Due();

    public static void main(String[] args) {
        setsTheLeastAndTheGreatestGrey();
        setsAMaskedDot();
        masksAllAndNone();
        turnsEachSize();
        turnsTwiceToWhatItWas();
        turnsMasksWithDots();
        turnsTheLeastPicture();
        refusesWhatWouldBeTooHigh();
        filtersAllAtOnce();
        filtersNothing();
        filtersEveryDot();
        filtersByOneOrSix();
        countsWhatIsOtherwiseThanAheadOfAll();
        filtersOnceOrTwentyTimes();
        stopsWhenNothingChanges();
        due.end();
    }

    private static void setsTheLeastAndTheGreatestGrey() {
        TalliedWindows x = Due.withPicture(Due.rows("80", 10, 8));
        due.is("dot(0, 0, 0)", x.dot(0, 0, 0), 0x80);
        due.is("dot(0, 0, 255)", x.dot(0, 0, 255), 0);
        due.is("dot(0, 0, 256)", x.dot(0, 0, 256), TalliedWindows.OUTSIDE);
        due.is("dot(0, 0, -1)", x.dot(0, 0, -1), TalliedWindows.OUTSIDE);
        due.is("dot(9, 7, 1)", x.dot(9, 7, 1), 0x80);
        due.is("dot(10, 7, 1)", x.dot(10, 7, 1), TalliedWindows.UNKNOWN);
        due.is("dot(9, 8, 1)", x.dot(9, 8, 1), TalliedWindows.UNKNOWN);
        due.is("dot(-1, 0, 1)", x.dot(-1, 0, 1), TalliedWindows.UNKNOWN);
        due.is("dot(0, -1, 1)", x.dot(0, -1, 1), TalliedWindows.UNKNOWN);
        due.is("at(0, 0, 0)", x.at(0, 0, 0), 255);
        due.is("the greys together", x.told(5), 78 * 0x80 + 255 + 1);
        due.is("deeds", x.told(11), 4);
    }

    private static void setsAMaskedDot() {
        TalliedWindows x = Due.withPicture("--");
        due.is("dot(0, 0, 9), masked", x.dot(0, 0, 9), 0);
        due.shows("a masked dot set", x, "(09)");
        due.is("mask(0, 0, false)", x.mask(0, 0, false), 0);
        due.shows("the dot unmasked", x, "09");
    }

    /** "A DOT is MASKED, or not: how many are then (its GREY stays)"; what changes nothing is a deed, too. */
    private static void masksAllAndNone() {
        TalliedWindows x = Due.withPicture("1122/3344");
        due.is("mask, none is", x.mask(0, 0, false), 0);
        for (int i = 0; i < 4; i++) {
            due.is("mask " + i, x.mask(i % 2, i / 2, true), i + 1);
        }
        due.is("mask, all are", x.mask(1, 1, true), 4);
        due.shows("all masked", x, "(11)(22)/(33)(44)");
        for (int i = 0; i < 4; i++) {
            due.is("unmask " + i, x.mask(i % 2, i / 2, false), 3 - i);
        }
        due.shows("none masked", x, "1122/3344");
        due.is("deeds", x.told(11), 11);
        due.is("mask(2, 1, true)", x.mask(2, 1, true), TalliedWindows.UNKNOWN);
        due.is("mask(1, 2, true)", x.mask(1, 2, true), TalliedWindows.UNKNOWN);
    }

    // ---- "TURNED (0 .. 3): W. OUTSIDE, NOT: W would be above 10, H above 8"

    private static void turnsEachSize() {
        for (int w = 1; w <= 10; w++) {
            for (int h = 1; h <= 8; h++) {
                TalliedWindows x = Due.withPicture(Due.rows("20", w, h));
                x.dot(w - 1, 0, 0x99);
                String of = w + " by " + h;
                due.is("turn(0) of " + of, x.turn(0), w);
                due.is("the dot behind turn(0) of " + of, x.at(0, 0, 0), 0x99);
                due.is("turn(1) of " + of, x.turn(1), w);
                due.is("the dot behind turn(1) of " + of, x.at(0, h - 1, 0), 0x99);
                due.is("turn(2) of " + of, x.turn(2), w <= 8 ? h : TalliedWindows.NOT);
                due.is("the dot behind turn(2) of " + of, w <= 8 ? x.at(h - 1, 0, 0) : x.at(0, h - 1, 0), 0x99);
                due.is("W behind turn(2) of " + of, x.told(0), w <= 8 ? h : w);
                due.is("H behind turn(2) of " + of, x.told(1), w <= 8 ? w : h);
                due.is("turn(3) of " + of, x.turn(3), w <= 8 ? h : w);
                due.is("the greys behind turn(3) of " + of, x.told(5), (w * h - 1) * (255 - 0x20) + 255 - 0x99);
                due.is("deeds of " + of, x.told(11), w <= 8 ? 6 : 5);
            }
        }
    }

    private static void turnsTwiceToWhatItWas() {
        for (int how = 0; how < 4; how++) {
            TalliedWindows x = Due.withPicture("01020304/--060708/090a0bff");
            String was = Due.shown(x);
            x.turn(how);
            due.holds("turn(" + how + ") is otherwise", !Due.shown(x).equals(was));
            x.turn(how);
            due.shows("turn(" + how + ") twice", x, was);
        }
        TalliedWindows x = Due.withPicture("01020304");
        due.is("turn(4)", x.turn(4), TalliedWindows.OUTSIDE);
        due.is("turn(-1)", x.turn(-1), TalliedWindows.OUTSIDE);
    }

    /** "MASKS go with DOTS; by 3 they stay": and the grey that a masked dot has becomes 255 less it, as each. */
    private static void turnsMasksWithDots() {
        String[] turned = {"0201(05)/060504", "040506/(05)0102", "(05)04/0105/0206", "(fa)fefd/fbfaf9"};
        for (int how = 0; how < 4; how++) {
            TalliedWindows x = Due.withPicture("050102/040506");
            x.mask(0, 0, true);
            x.turn(how);
            due.shows("turn(" + how + ")", x, turned[how]);
            due.is("masks behind turn(" + how + ")", x.told(2), 1);
        }
    }

    private static void turnsTheLeastPicture() {
        TalliedWindows x = new TalliedWindows();
        for (int how = 0; how < 3; how++) {
            due.is("turn(" + how + ") of one dot", x.turn(how), 1);
            due.shows("turn(" + how + ") of one dot", x, "00");
        }
        due.is("turn(3) of one dot", x.turn(3), 1);
        due.shows("turn(3) of one dot", x, "ff");
        due.is("deeds", x.told(11), 4);
    }

    private static void refusesWhatWouldBeTooHigh() {
        TalliedWindows x = Due.withPicture(Due.rows("20", 8, 8));
        due.is("turn(2) of eight by eight", x.turn(2), 8);
        x = Due.withPicture(Due.rows("20", 9, 8));
        due.is("turn(2) of nine by eight", x.turn(2), TalliedWindows.NOT);
        due.is("W", x.told(0), 9);
        due.is("H", x.told(1), 8);
        due.is("turn(4) of nine by eight", x.turn(4), TalliedWindows.OUTSIDE);
        x = Due.withPicture(Due.rows("20", 10, 1));
        due.is("turn(2) of ten by one", x.turn(2), TalliedWindows.NOT);
        x = Due.withPicture(Due.rows("20", 1, 8));
        due.is("turn(2) of one by eight", x.turn(2), 8);
        due.is("turn(2) back", x.turn(2), 1);
    }

    // ---- "FILTERED: each DOT that is not MASKED has the GREY that was its LAST, all at once; MASKED ones stay"

    private static void filtersAllAtOnce() {
        TalliedWindows x = Due.withPicture("ff000000");
        x.filter(1, 0, 100, 0, 1);
        due.is("filtered(0)", x.filtered(0), 1);
        due.shows("filtered(0)", x, "ffff0000");
        x = Due.withPicture("000000ff");
        x.filter(1, 0, 100, 0, 1);
        due.is("filtered(0) from the right", x.filtered(0), 1);
        due.shows("filtered(0) from the right", x, "0000ffff");
        x = Due.withPicture("ff/00/00");
        x.filter(0, 1, 100, 0, 1);
        due.is("filtered(0) from the top", x.filtered(0), 1);
        due.shows("filtered(0) from the top", x, "ff/ff/00");
    }

    private static void filtersNothing() {
        TalliedWindows x = Due.withPicture("----/----");
        x.dot(0, 0, 7);
        x.fill(99);
        x.filter(4, 4, 50, 4, 9);
        due.is("filtered(0), all masked", x.filtered(0), 0);
        due.is("all(), all masked", x.all(), 0);
        due.is("until(0, 20), all masked", x.until(0, 20), 0);
        due.shows("all masked", x, "(07)(00)/(00)(00)");
        due.is("deeds that changed nothing", x.told(11), 5);
    }

    private static void filtersEveryDot() {
        TalliedWindows x = Due.withPicture(Due.rows("ff", 10, 8));
        x.filter(4, 4, 0, 4, 1);
        // the windows of the middle columns reach no border across, but all reach one down
        due.is("filtered(0), every dot", x.filtered(0), 80);
        due.is("the greys together", x.told(5), 0);
        due.is("filtered(0) again", x.filtered(0), 0);
        due.is("undo(2)", x.undo(2), 1);
        due.is("the greys together as ahead", x.told(5), 80 * 255);
    }

    // ---- "FILTERED by each FILTER, one after another: how many GREYS are otherwise than ahead of all"

    private static void filtersByOneOrSix() {
        TalliedWindows x = Due.withPicture("ff000000000000000000");
        due.is("all() by none", x.all(), TalliedWindows.NOT);
        for (int f = 0; f < 6; f++) {
            x.filter(1, 0, 100, 0, 1);
            due.is("all() by " + (f + 1), x.all(), f + 1);
            due.is("deeds", x.told(11), 2);
            x.undo(1);
        }
        due.is("all() by six", x.all(), 6);
        due.shows("all() by six", x, "ffffffffffffff000000");
        for (int f = 0; f < 6; f++) {
            x.drop(0);
        }
        due.is("all() by none again", x.all(), TalliedWindows.NOT);
        due.is("deeds", x.told(11), 2);
    }

    private static void countsWhatIsOtherwiseThanAheadOfAll() {
        TalliedWindows x = Due.withPicture("00ff00ff");
        x.filter(1, 0, 50, 3, 1);
        x.filter(1, 0, 50, 3, 1);
        due.is("all(), to and fro", x.all(), 0);
        due.shows("all(), to and fro", x, "00ff00ff");
        x.filter(1, 0, 50, 3, 1);
        due.is("all(), to and fro and to", x.all(), 4);
        due.shows("all(), to and fro and to", x, "ff00ff00");
        // one after another, in the order of their numbers
        x = Due.withPicture("00ff0000");
        x.filter(1, 0, 0, 0, 1);
        x.filter(1, 0, 100, 0, 1);
        due.is("all(), the least and then the greatest", x.all(), 1);
        due.shows("all(), the least and then the greatest", x, "00000000");
        x = Due.withPicture("00ff0000");
        x.filter(1, 0, 100, 0, 1);
        x.filter(1, 0, 0, 0, 1);
        due.is("all(), the greatest and then the least", x.all(), 1);
        due.shows("all(), the greatest and then the least", x, "ffff0000");
    }

    // ---- "FILTERED again and again, till it changes nothing, n times (1 .. 20) at most: how often it changed something"

    private static void filtersOnceOrTwentyTimes() {
        for (int n = 1; n <= 20; n++) {
            TalliedWindows x = Due.withPicture("00ff00ff");
            x.filter(1, 0, 50, 3, 1);
            due.is("until(0, " + n + "), to and fro", x.until(0, n), n);
            due.shows("until(0, " + n + "), to and fro", x, n % 2 == 0 ? "00ff00ff" : "ff00ff00");
            due.is("one deed", x.told(11), 2);
            due.is("until(0, 0)", x.until(0, 0), TalliedWindows.OUTSIDE);
            due.is("until(0, 21)", x.until(0, 21), TalliedWindows.OUTSIDE);
            due.is("undo(1)", x.undo(1), 1);
            due.shows("until(0, " + n + ") undone", x, "00ff00ff");
        }
    }

    private static void stopsWhenNothingChanges() {
        for (int n = 1; n <= 20; n++) {
            TalliedWindows x = Due.withPicture("ff000000000000000000");
            x.filter(1, 0, 100, 0, 1);
            due.is("until(0, " + n + ")", x.until(0, n), Math.min(n, 9));
            due.is("until(0, 20) behind it", x.until(0, 20), 9 - Math.min(n, 9));
            due.is("until(0, 1), nothing changes", x.until(0, 1), 0);
            due.is("deeds", x.told(11), 4);
        }
    }
}
