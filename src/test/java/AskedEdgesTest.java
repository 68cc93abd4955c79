/**
 * "ASKED": the edges of told, at, tally, would, bins, spikes: the least and the greatest answers, none masked and all
 * masked, the greys on both sides of a told one.
 */
public final class AskedEdgesTest {
    private static final Due due = new Due();

    public static void main(String[] args) {
        tellsTheLeast();
        tellsTheGreatest();
        tellsOneOpenDotAmongMasked();
        tellsWhenAllAreMasked();
        tellsMasksThatKeepTheirGrey();
        asksEachCorner();
        talliesEachGrey();
        talliesEachRectangle();
        talliesNoMaskedDot();
        talliesBeyondTheGreys();
        countsWhatIsBelow();
        spreadsFromNothingToAll();
        looksAtBinsOfEachValue();
        looksAtBinsOfAllDots();
        findsSpikesBeyondEachT();
        findsSpikesAboveAndBelow();
        findsNoMaskedSpike();
        due.end();
    }

    private static void tells(TalliedWindows x, String of, int... wanted) {
        for (int what = 0; what < wanted.length; what++) {
            due.is("told(" + what + ") of " + of, x.told(what), wanted[what]);
        }
    }

    private static void tellsTheLeast() {
        TalliedWindows x = new TalliedWindows();
        tells(x, "a new object", 1, 1, 0, 0, 0, 0, 0, 0, 0, 0, TalliedWindows.NONE, 0);
        due.is("told(-1)", x.told(-1), TalliedWindows.OUTSIDE);
        due.is("told(12)", x.told(12), TalliedWindows.OUTSIDE);
    }

    private static void tellsTheGreatest() {
        TalliedWindows x = Due.withPicture(Due.rows("ff", 10, 8));
        for (int i = 0; i < 20; i++) {
            x.filter(0, 0, 0, 0, 1);
            x.write(0, 0, i < 19 ? 255 : 254);
            x.mask(0, 0, false);
        }
        x.fill(255);
        for (int i = 0; i < 180; i++) {
            x.feed('/');
        }
        tells(x, "a full one", 10, 8, 0, 255, 255, 80 * 255, 180, 6, 255, 20, 19, 16);
    }

    private static void tellsOneOpenDotAmongMasked() {
        for (int grey = 0; grey < 256; grey += 51) {
            TalliedWindows x = Due.withPicture("--" + String.format("%02x", grey) + "--");
            tells(x, "one open dot", 3, 1, 2, grey, grey, grey);
        }
    }

    /** "the least GREY of those that are not, 4 the greatest (NONE: all are)". */
    private static void tellsWhenAllAreMasked() {
        TalliedWindows x = Due.withPicture(Due.rows("--", 10, 8));
        tells(x, "all masked", 10, 8, 80, TalliedWindows.NONE, TalliedWindows.NONE, 0);
        x.mask(9, 7, false);
        tells(x, "all masked but the last", 10, 8, 79, 0, 0, 0);
        x.dot(9, 7, 255);
        tells(x, "all masked but a bright one", 10, 8, 79, 255, 255, 255);
        x.mask(9, 7, true);
        tells(x, "all masked again", 10, 8, 80, TalliedWindows.NONE, TalliedWindows.NONE, 0);
    }

    private static void tellsMasksThatKeepTheirGrey() {
        TalliedWindows x = Due.withPicture("00807fff");
        x.mask(0, 0, true);
        tells(x, "the least masked", 4, 1, 1, 0x7f, 0xff, 0x80 + 0x7f + 0xff);
        x.mask(3, 0, true);
        tells(x, "the greatest masked", 4, 1, 2, 0x7f, 0x80, 0x80 + 0x7f);
        due.is("at(3, 0, 0), masked", x.at(3, 0, 0), 255);
        due.is("at(3, 0, 1), masked", x.at(3, 0, 1), 1);
    }

    private static void asksEachCorner() {
        TalliedWindows x = Due.withPicture(Due.rows("11", 9, 1) + "22/" + Due.rows("33", 10, 6) + "/--" + Due.rows("44", 9, 1));
        due.is("at(0, 0, 0)", x.at(0, 0, 0), 0x11);
        due.is("at(9, 0, 0)", x.at(9, 0, 0), 0x22);
        due.is("at(0, 7, 0)", x.at(0, 7, 0), 0);
        due.is("at(0, 7, 1)", x.at(0, 7, 1), 1);
        due.is("at(9, 7, 0)", x.at(9, 7, 0), 0x44);
        due.is("at(9, 7, 1)", x.at(9, 7, 1), 0);
        due.is("at(10, 7, 0)", x.at(10, 7, 0), TalliedWindows.UNKNOWN);
        due.is("at(9, 8, 0)", x.at(9, 8, 0), TalliedWindows.UNKNOWN);
        due.is("at(-1, 7, 0)", x.at(-1, 7, 0), TalliedWindows.UNKNOWN);
        due.is("at(9, -1, 0)", x.at(9, -1, 0), TalliedWindows.UNKNOWN);
        due.is("at(9, 7, 2)", x.at(9, 7, 2), TalliedWindows.OUTSIDE);
        due.is("at(9, 7, -1)", x.at(9, 7, -1), TalliedWindows.OUTSIDE);
    }

    // ---- "TALLY of g in a rectangle: how many of its DOTS that are not MASKED have a GREY of g or less"

    private static void talliesEachGrey() {
        TalliedWindows x = Due.withPicture("000180fe/ff7f80--");
        int[] greys = {0, 1, 0x80, 0xfe, 0xff, 0x7f, 0x80};
        for (int g = -1; g <= 256; g++) {
            int want = 0;
            for (int grey : greys) {
                want += grey <= g ? 1 : 0;
            }
            due.is("tally of " + g, x.tally(0, 0, 3, 1, g), want);
        }
    }

    /** "from DOT x, y to DOT u, v (both in it; u no less than x, v no less than y)". */
    private static void talliesEachRectangle() {
        for (int w = 1; w <= 4; w++) {
            int h = 5 - w;
            TalliedWindows x = Due.withPicture(Due.rows("09", w, h));
            for (int a = 0; a < w * h * w * h; a++) {
                int fromX = a % w;
                int fromY = a / w % h;
                int toX = a / w / h % w;
                int toY = a / w / h / w;
                boolean isOne = toX >= fromX && toY >= fromY;
                due.is("tally from " + fromX + ", " + fromY + " to " + toX + ", " + toY, x.tally(fromX, fromY, toX, toY, 9),
                    isOne ? (toX - fromX + 1) * (toY - fromY + 1) : TalliedWindows.OUTSIDE);
            }
        }
        TalliedWindows x = Due.withPicture(Due.rows("09", 10, 8));
        due.is("tally of the greatest rectangle", x.tally(0, 0, 9, 7, 9), 80);
        due.is("tally of the last dot", x.tally(9, 7, 9, 7, 9), 1);
        due.is("tally to beyond the last column", x.tally(0, 0, 10, 7, 9), TalliedWindows.UNKNOWN);
        due.is("tally to beyond the last row", x.tally(0, 0, 9, 8, 9), TalliedWindows.UNKNOWN);
    }

    private static void talliesNoMaskedDot() {
        TalliedWindows x = Due.withPicture("--05");
        due.is("tally of a masked dot", x.tally(0, 0, 0, 0, 256), 0);
        due.is("tally with a masked dot", x.tally(0, 0, 1, 0, 256), 1);
        x.mask(1, 0, true);
        due.is("tally of masked dots", x.tally(0, 0, 1, 0, 256), 0);
        x.mask(0, 0, false);
        due.is("tally of an unmasked dot", x.tally(0, 0, 1, 0, 0), 1);
    }

    private static void talliesBeyondTheGreys() {
        TalliedWindows x = Due.withPicture("00ff");
        due.is("tally of -1", x.tally(0, 0, 1, 0, -1), 0);
        due.is("tally of 0", x.tally(0, 0, 1, 0, 0), 1);
        due.is("tally of 254", x.tally(0, 0, 1, 0, 254), 1);
        due.is("tally of 255", x.tally(0, 0, 1, 0, 255), 2);
        due.is("tally of 256", x.tally(0, 0, 1, 0, 256), 2);
        due.is("tally of -2", x.tally(0, 0, 1, 0, -2), TalliedWindows.OUTSIDE);
        due.is("tally of 257", x.tally(0, 0, 1, 0, 257), TalliedWindows.OUTSIDE);
    }

    // ---- would: "how many of the COUNTED are less than its GREY, the greatest COUNTED less the least"

    /** Those that are equal are not below; of a masked dot the grey counts that it still has. */
    private static void countsWhatIsBelow() {
        TalliedWindows x = Due.withPicture("00010101ff");
        x.filter(4, 0, 50, 0, 1);
        int[] below = {0, 1, 1, 1, 4};
        for (int column = 0; column < 5; column++) {
            due.is("below dot " + column, x.would(0, column, 0, 2), below[column]);
        }
        x.mask(4, 0, true);
        due.is("below a masked dot of 255", x.would(0, 4, 0, 2), 4);
        x.dot(4, 0, 0);
        due.is("below a masked dot of 0", x.would(0, 4, 0, 2), 0);
    }

    private static void spreadsFromNothingToAll() {
        TalliedWindows x = Due.withPicture("00ff80--");
        x.filter(1, 0, 50, 0, 1);
        x.filter(0, 0, 50, 0, 1);
        x.filter(0, 1, 50, 4, 1);
        due.is("the spread of 0 and 255", x.would(0, 0, 0, 3), 255);
        due.is("the spread of 255 and 128", x.would(0, 2, 0, 3), 127);
        due.is("the spread of one", x.would(1, 1, 0, 3), 0);
        due.is("the spread of none", x.would(1, 3, 0, 3), TalliedWindows.NONE);
        due.is("the spread with FILL 0", x.would(2, 1, 0, 3), 255);
        x.fill(255);
        due.is("the spread with FILL 255", x.would(2, 1, 0, 3), 0);
        due.is("would(0, 0, 0, 4)", x.would(0, 0, 0, 4), TalliedWindows.OUTSIDE);
        due.is("would(0, 0, 0, -1)", x.would(0, 0, 0, -1), TalliedWindows.OUTSIDE);
    }

    // ---- "BINS of a value v: v / 16, and what is left over of v by 16, and 2"

    private static void looksAtBinsOfEachValue() {
        for (int v = 0; v < 256; v++) {
            TalliedWindows x = new TalliedWindows();
            x.filter(0, 0, 50, 0, 1);
            x.dot(0, 0, v);
            due.is("bins of " + v, x.bins(0), v / 16 + v % 16 + 2);
        }
    }

    private static void looksAtBinsOfAllDots() {
        TalliedWindows x = Due.withPicture(Due.rows("ff", 10, 8));
        x.filter(4, 4, 50, 1, 9);
        due.is("bins of the greatest picture", x.bins(0), 80 * 32);
        x.mask(0, 0, true);
        due.is("bins with one masked", x.bins(0), 79 * 32);
        x = Due.withPicture("----");
        x.filter(4, 4, 50, 4, 9);
        due.is("bins of all masked", x.bins(0), 0);
        // what the windows hold is looked for, not what the dots are
        x = Due.withPicture("0f10");
        x.filter(1, 0, 100, 0, 1);
        due.is("bins of the greatest", x.bins(0), 2 * 3);
    }

    // ---- "SPIKES by a FILTER beyond t: DOTS that are not MASKED, whose GREY is more than t from their LAST"

    private static void findsSpikesBeyondEachT() {
        TalliedWindows x = Due.withPicture("00ff0a");
        x.filter(4, 0, 0, 0, 1);
        for (int t = 0; t < 256; t++) {
            due.is("spikes beyond " + t, x.spikes(0, t), (t < 255 ? 1 : 0) + (t < 10 ? 1 : 0));
        }
        due.is("spikes beyond -1", x.spikes(0, -1), TalliedWindows.OUTSIDE);
        due.is("spikes beyond 256", x.spikes(0, 256), TalliedWindows.OUTSIDE);
    }

    private static void findsSpikesAboveAndBelow() {
        TalliedWindows x = Due.withPicture("505a50/464650/505050");
        x.filter(4, 4, 50, 0, 1);
        due.is("spikes beyond 9", x.spikes(0, 9), 3);
        due.is("spikes beyond 10", x.spikes(0, 10), 0);
        due.is("spikes beyond 0", x.spikes(0, 0), 3);
    }

    private static void findsNoMaskedSpike() {
        TalliedWindows x = Due.withPicture("50ff50");
        x.filter(1, 0, 50, 0, 1);
        due.is("spikes", x.spikes(0, 0), 1);
        x.mask(1, 0, true);
        due.is("spikes, the bright one masked", x.spikes(0, 0), 0);
        x.mask(0, 0, true);
        x.mask(2, 0, true);
        due.is("spikes, all masked", x.spikes(0, 0), 0);
    }
}
