import java.util.ArrayList;
import java.util.Collections;
import java.util.List;

/**
 * "A FILTER" and "THE WINDOW": every place out of the picture by every border, windows greater than the picture, the
 * weights, every rank, N 0, and the bounds of filters and of FILL.
 */
public final class WindowEdgesTest {
    private static final int NOTHING = 0, NEAREST = 1, MIRROR = 2, AGAIN = 3, FILL = 4;

    private static final Due due = new Due();

    public static void main(String[] args) {
        takesTheLeastAndTheGreatestOfEachNumber();
        holdsSixFilters();
        numbersFiltersAnew();
        holdsNoFilterAtFirst();
        setsFillBetweenItsBounds();
        fillsForAllFilters();
        standsForEveryPlaceInARow();
        standsForEveryPlaceInAColumn();
        standsForEveryPlaceInBothWays();
        mirrorsAsTold();
        looksAtTheDotAlone();
        looksBeyondAPictureOfOneDot();
        looksOverTheGreatestPicture();
        countsTheDotItselfByEachWeight();
        countsNoMaskedDotByAnyWeight();
        countsAStandInOnce();
        countsNothing();
        ranksByEachRank();
        ranksTheGreatestWindow();
        due.end();
    }

    // ---- "ACROSS (0 .. 4), DOWN (0 .. 4), RANK (0 .. 100), BORDER (0 .. 4), WEIGHT (1 .. 9)"

    private static void takesTheLeastAndTheGreatestOfEachNumber() {
        int[] least = {0, 0, 0, 0, 1};
        int[] most = {4, 4, 100, 4, 9};
        for (int i = 0; i < 5; i++) {
            TalliedWindows x = new TalliedWindows();
            int[] a = {2, 2, 50, 2, 5};
            a[i] = least[i];
            due.is("number " + i + " least", x.filter(a[0], a[1], a[2], a[3], a[4]), 0);
            a[i] = most[i];
            due.is("number " + i + " greatest", x.filter(a[0], a[1], a[2], a[3], a[4]), 1);
            a[i] = least[i] - 1;
            due.is("number " + i + " too small", x.filter(a[0], a[1], a[2], a[3], a[4]), TalliedWindows.OUTSIDE);
            a[i] = most[i] + 1;
            due.is("number " + i + " too great", x.filter(a[0], a[1], a[2], a[3], a[4]), TalliedWindows.OUTSIDE);
            due.is("filters behind number " + i, x.told(7), 2);
        }
    }

    /** "FILTERS (6 at most)"; one that goes makes room for one. */
    private static void holdsSixFilters() {
        TalliedWindows x = new TalliedWindows();
        for (int f = 0; f < 6; f++) {
            due.is("filter " + f, x.filter(0, 0, 0, 0, 1 + f), f);
        }
        due.is("filter 6", x.filter(0, 0, 0, 0, 9), TalliedWindows.FULL);
        due.is("the sixth works", x.would(5, 0, 0, 1), 6);
        due.is("there is no seventh", x.would(6, 0, 0, 1), TalliedWindows.UNKNOWN);
        due.is("drop(5), the last", x.drop(5), 5);
        due.is("drop(5), it is no more", x.drop(5), TalliedWindows.UNKNOWN);
        due.is("filter 5 anew", x.filter(0, 0, 0, 0, 9), 5);
        due.is("filter 6 again", x.filter(0, 0, 0, 0, 9), TalliedWindows.FULL);
        due.is("drop(0), the first", x.drop(0), 5);
        due.is("filter 5 anew again", x.filter(0, 0, 0, 0, 8), 5);
        due.is("filters", x.told(7), 6);
    }

    /** "if one goes, later ones have one number less": the weights tell them apart. */
    private static void numbersFiltersAnew() {
        for (int gone = 0; gone < 6; gone++) {
            TalliedWindows x = new TalliedWindows();
            for (int f = 0; f < 6; f++) {
                x.filter(0, 0, 0, 0, 1 + f);
            }
            due.is("drop(" + gone + ")", x.drop(gone), 5);
            for (int f = 0; f < 5; f++) {
                due.is("filter " + f + " behind drop(" + gone + ")", x.would(f, 0, 0, 1), f < gone ? 1 + f : 2 + f);
            }
            due.is("filter 5 behind drop(" + gone + ")", x.would(5, 0, 0, 1), TalliedWindows.UNKNOWN);
        }
    }

    private static void holdsNoFilterAtFirst() {
        TalliedWindows x = new TalliedWindows();
        due.is("filters at first", x.told(7), 0);
        due.is("drop(0) at first", x.drop(0), TalliedWindows.UNKNOWN);
        x.filter(0, 0, 0, 0, 1);
        due.is("drop(0), the only one", x.drop(0), 0);
        due.is("drop(0), none", x.drop(0), TalliedWindows.UNKNOWN);
        due.is("would(0, 0, 0, 0), none", x.would(0, 0, 0, 0), TalliedWindows.UNKNOWN);
        due.is("the first behind none", x.filter(0, 0, 0, 0, 1), 0);
    }

    /** "FILL (0 .. 255; 0 at first)"; "what it was". */
    private static void setsFillBetweenItsBounds() {
        TalliedWindows x = new TalliedWindows();
        due.is("FILL at first", x.told(8), 0);
        due.is("fill(255)", x.fill(255), 0);
        due.is("fill(256)", x.fill(256), TalliedWindows.OUTSIDE);
        due.is("fill(-1)", x.fill(-1), TalliedWindows.OUTSIDE);
        due.is("FILL", x.told(8), 255);
        due.is("fill(0)", x.fill(0), 255);
        due.is("fill(0) again", x.fill(0), 0);
        due.is("FILL again", x.told(8), 0);
    }

    private static void fillsForAllFilters() {
        TalliedWindows x = Due.withPicture("80");
        x.filter(1, 0, 0, FILL, 1);
        x.filter(0, 1, 100, FILL, 1);
        int[] fills = {0, 255, 0x80};
        for (int fill : fills) {
            x.fill(fill);
            due.is("the least by FILL " + fill, x.would(0, 0, 0, 0), Math.min(fill, 0x80));
            due.is("the greatest by FILL " + fill, x.would(1, 0, 0, 0), Math.max(fill, 0x80));
            due.is("below, by FILL " + fill, x.would(0, 0, 0, 2), fill < 0x80 ? 2 : 0);
        }
    }

    // ---- BORDER: which dot stands for which place

    /** The document's words, a step at a time. */
    private static int standing(int place, int size, int border) {
        int p = place;
        while (p < 0 || p >= size) {
            switch (border) {
                case NEAREST: p = p < 0 ? 0 : size - 1; break;
                case MIRROR: p = p < 0 ? -1 - p : size - 1 - (p - size); break;
                case AGAIN: p = p < 0 ? p + size : p - size; break;
                default: return TalliedWindows.NONE;
            }
        }
        return p;
    }

    /** How often the dot p is looked at from the dot x, with the places that are out of the picture. */
    private static int often(int x, int across, int size, int border, int p) {
        int n = 0;
        for (int dx = -across; dx <= across; dx++) {
            n += standing(x + dx, size, border) == p ? 1 : 0;
        }
        return n;
    }

    private static int outOfIt(int x, int across, int size) {
        return often(x, across, size, NOTHING, TalliedWindows.NONE);
    }

    /** All dots but one are masked, so that N tells how many places that one stands for. */
    private static String onlyOpen(int w, int h, int column, int row) {
        StringBuilder text = new StringBuilder();
        for (int y = 0; y < h; y++) {
            text.append(y == 0 ? "" : "/");
            for (int x = 0; x < w; x++) {
                text.append(x == column && y == row ? "40" : "--");
            }
        }
        return text.toString();
    }

    private static void standsForEveryPlaceInARow() {
        for (int w = 1; w <= 10; w++) {
            for (int p = 0; p < w; p++) {
                TalliedWindows x = Due.withPicture(onlyOpen(w, 1, p, 0));
                for (int i = 0; i < 25; i++) {
                    int across = i / 5;
                    int border = i % 5;
                    x.filter(across, 0, 50, border, 1);
                    for (int from = 0; from < w; from++) {
                        int want = often(from, across, w, border, p) + (border == FILL ? outOfIt(from, across, w) : 0);
                        due.is("N from " + from + " by border " + border + ", " + across + " across, dot " + p + " of " + w,
                            x.would(0, from, 0, 1), want);
                    }
                    x.drop(0);
                }
            }
        }
    }

    private static void standsForEveryPlaceInAColumn() {
        for (int h = 1; h <= 8; h++) {
            for (int p = 0; p < h; p++) {
                TalliedWindows x = Due.withPicture(onlyOpen(1, h, 0, p));
                for (int i = 0; i < 25; i++) {
                    int down = i / 5;
                    int border = i % 5;
                    x.filter(0, down, 50, border, 1);
                    for (int from = 0; from < h; from++) {
                        int want = often(from, down, h, border, p) + (border == FILL ? outOfIt(from, down, h) : 0);
                        due.is("N from " + from + " by border " + border + ", " + down + " down, dot " + p + " of " + h,
                            x.would(0, 0, from, 1), want);
                    }
                    x.drop(0);
                }
            }
        }
    }

    /** A place may be out of the picture by its x, by its y, or by both; by FILL each of them is one. */
    private static void standsForEveryPlaceInBothWays() {
        int w = 3;
        int h = 2;
        for (int p = 0; p < w * h; p++) {
            TalliedWindows x = Due.withPicture(onlyOpen(w, h, p % w, p / w));
            for (int i = 0; i < 15; i++) {
                int border = i % 5;
                int across = i < 5 ? 1 : i < 10 ? 4 : 2;
                int down = i < 5 ? 1 : i < 10 ? 3 : 4;
                x.filter(across, down, 50, border, 1);
                for (int from = 0; from < w * h; from++) {
                    int places = (2 * across + 1) * (2 * down + 1);
                    int inside = (2 * across + 1 - outOfIt(from % w, across, w)) * (2 * down + 1 - outOfIt(from / w, down, h));
                    int ofDot = often(from % w, across, w, border, p % w) * often(from / w, down, h, border, p / w);
                    due.is("N from " + from + " by border " + border + ", " + across + " by " + down + ", dot " + p,
                        x.would(0, from % w, from / w, 1), ofDot + (border == FILL ? places - inside : 0));
                }
                x.drop(0);
            }
        }
    }

    /** "-1 is 0, -2 is 1, ..; W is W less 1, W and 1 is W less 2, ..; again, if that is out of it, too". */
    private static void mirrorsAsTold() {
        TalliedWindows x = Due.withPicture("01020304050607");
        x.filter(2, 0, 100, MIRROR, 1);
        x.filter(2, 0, 0, MIRROR, 1);
        x.filter(4, 0, 50, MIRROR, 1);
        due.is("the greatest from 0: 2 1 1 2 3", x.would(0, 0, 0, 0), 3);
        due.is("the least from 6: 5 6 7 7 6", x.would(1, 6, 0, 0), 5);
        due.is("below, from 0: 4 3 2 1 1 2 3 4 5", x.would(2, 0, 0, 2), 0);
        due.is("the middle from 0", x.would(2, 0, 0, 0), 3);
        due.is("below, from 6: 3 4 5 6 7 7 6 5 4", x.would(2, 6, 0, 2), 7);
        due.is("the middle from 6", x.would(2, 6, 0, 0), 5);
        x = Due.withPicture("0109");
        x.filter(3, 0, 50, MIRROR, 1);
        // behind two dots the mirror shows -3 as 2, and 2 as 1; 4 as -1, and -1 as 0
        due.is("below, from 1: 9 1 1 9 9 1 1", x.would(0, 1, 0, 2), 4);
        due.is("the middle from 0: 9 9 1 1 9 9 1", x.would(0, 0, 0, 0), 9);
    }

    // ---- the smallest windows and pictures, and the greatest

    private static void looksAtTheDotAlone() {
        for (int border = 0; border < 5; border++) {
            TalliedWindows x = Due.withPicture("102030/405060");
            x.fill(0xee);
            x.filter(0, 0, 50, border, 1);
            due.is("N by border " + border, x.would(0, 2, 0, 1), 1);
            due.is("LAST by border " + border, x.would(0, 2, 0, 0), 0x30);
            due.is("filtered by border " + border, x.filtered(0), 0);
        }
    }

    private static void looksBeyondAPictureOfOneDot() {
        for (int border = 0; border < 5; border++) {
            TalliedWindows x = Due.withPicture("40");
            x.fill(0x90);
            x.filter(4, 4, 100, border, 9);
            due.is("N by border " + border, x.would(0, 0, 0, 1), border == NOTHING ? 9 : 80 + 9);
            due.is("LAST by border " + border, x.would(0, 0, 0, 0), border == FILL ? 0x90 : 0x40);
            due.is("the spread by border " + border, x.would(0, 0, 0, 3), border == FILL ? 0x50 : 0);
        }
    }

    /** From each corner of ten by eight the window reaches four dots in and four places out. */
    private static void looksOverTheGreatestPicture() {
        TalliedWindows x = Due.withPicture(ofSingleGreys());
        for (int border = 0; border < 5; border++) {
            x.filter(4, 4, 0, border, 1);
            for (int corner = 0; corner < 4; corner++) {
                int column = corner % 2 * 9;
                int row = corner / 2 * 7;
                due.is("N from corner " + corner + " by border " + border, x.would(border, column, row, 1), border == NOTHING ? 25 : 81);
            }
        }
        due.is("the least from the last corner by nothing", x.would(NOTHING, 9, 7, 0), 3 * 10 + 5);
        due.is("the least from the last corner by the nearest", x.would(NEAREST, 9, 7, 0), 3 * 10 + 5);
        due.is("the least from the last corner by the mirror", x.would(MIRROR, 9, 7, 0), 3 * 10 + 5);
        due.is("the least from the last corner, again", x.would(AGAIN, 9, 7, 0), 0);
        due.is("the least from the last corner by FILL", x.would(FILL, 9, 7, 0), 0);
        due.is("below, from the last corner by nothing", x.would(NOTHING, 9, 7, 2), 24);
        due.is("below, from the last corner by the nearest", x.would(NEAREST, 9, 7, 2), 81 - 25);
    }

    /** Ten by eight, each dot with its own number for its grey. */
    private static String ofSingleGreys() {
        StringBuilder text = new StringBuilder();
        for (int i = 0; i < 80; i++) {
            text.append(i > 0 && i % 10 == 0 ? "/" : "").append(String.format("%02x", i));
        }
        return text.toString();
    }

    // ---- COUNTED: the dot itself, masked ones, those that stand for a place

    private static void countsTheDotItselfByEachWeight() {
        for (int weight = 1; weight <= 9; weight++) {
            TalliedWindows x = Due.withPicture("102030/40ff60/708090");
            x.filter(1, 1, 50, NOTHING, weight);
            due.is("N by weight " + weight, x.would(0, 1, 1, 1), 8 + weight);
            due.is("below by weight " + weight, x.would(0, 1, 1, 2), 8);
            int[] rising = {0x10, 0x20, 0x30, 0x40, 0x60, 0x70, 0x80, 0x90};
            int number = 50 * (8 + weight - 1) / 100;
            due.is("LAST by weight " + weight, x.would(0, 1, 1, 0), number < 8 ? rising[number] : 0xff);
            due.is("another dot's N by weight " + weight, x.would(0, 0, 0, 1), 3 + weight);
        }
    }

    private static void countsNoMaskedDotByAnyWeight() {
        for (int weight = 1; weight <= 9; weight++) {
            TalliedWindows x = Due.withPicture("10--30");
            x.filter(1, 0, 100, NOTHING, weight);
            due.is("N of a masked dot by weight " + weight, x.would(0, 1, 0, 1), 2);
            due.is("N beside a masked dot by weight " + weight, x.would(0, 0, 0, 1), weight);
            x.mask(1, 0, false);
            due.is("N of it unmasked by weight " + weight, x.would(0, 1, 0, 1), 2 + weight);
        }
    }

    /** "the DOT that stands for it, once, if that is not MASKED": once, even where it is the dot itself. */
    private static void countsAStandInOnce() {
        for (int border = NEAREST; border <= AGAIN; border++) {
            TalliedWindows x = Due.withPicture("40");
            x.filter(1, 0, 50, border, 9);
            due.is("N of one dot by border " + border, x.would(0, 0, 0, 1), 9 + 2);
            x.mask(0, 0, true);
            due.is("N of one masked dot by border " + border, x.would(0, 0, 0, 1), 0);
        }
    }

    /** "NONE, if N is 0". */
    private static void countsNothing() {
        TalliedWindows x = Due.withPicture("----/----");
        x.fill(0x66);
        for (int border = 0; border < 5; border++) {
            x.filter(4, 4, 50, border, 9);
            boolean isFill = border == FILL;
            due.is("LAST by border " + border, x.would(border, 0, 0, 0), isFill ? 0x66 : TalliedWindows.NONE);
            due.is("N by border " + border, x.would(border, 0, 0, 1), isFill ? 81 - 4 : 0);
            due.is("below by border " + border, x.would(border, 0, 0, 2), 0);
            due.is("the spread by border " + border, x.would(border, 0, 0, 3), isFill ? 0 : TalliedWindows.NONE);
            due.is("bins by border " + border, x.bins(border), 0);
            due.is("spikes by border " + border, x.spikes(border, 0), 0);
        }
        x.filter(0, 0, 50, FILL, 1);
        due.is("N of a masked dot alone by FILL", x.would(5, 0, 0, 1), 0);
        due.is("LAST of a masked dot alone by FILL", x.would(5, 0, 0, 0), TalliedWindows.NONE);
    }

    // ---- LAST: "that with number RANK times (N less 1), / 100"

    private static void ranksByEachRank() {
        for (int n = 1; n <= 9; n++) {
            StringBuilder text = new StringBuilder();
            for (int i = 0; i < n; i++) {
                // falling, so that the order of the dots is not the order of the greys
                text.append(String.format("%02x", 200 - i));
            }
            TalliedWindows x = Due.withPicture(text.toString());
            for (int rank = 0; rank <= 100; rank++) {
                x.filter(4, 0, rank, NOTHING, 1);
                due.is("rank " + rank + " of " + n, x.would(0, (n - 1) / 2, 0, 0), 201 - n + rank * (n - 1) / 100);
                x.drop(0);
            }
        }
    }

    /** 80 places and the dot nine times: 89 are counted, the most that there can be. */
    private static void ranksTheGreatestWindow() {
        TalliedWindows x = Due.withPicture(ofSingleGreys());
        List<Integer> rising = new ArrayList<>(Collections.nCopies(8, 44));
        for (int row = 0; row <= 8; row++) {
            for (int column = 0; column <= 8; column++) {
                rising.add(standing(row, 8, NEAREST) * 10 + column);
            }
        }
        Collections.sort(rising);
        for (int rank = 0; rank <= 100; rank++) {
            x.filter(4, 4, rank, NEAREST, 9);
            due.is("rank " + rank + " of 89", x.would(0, 4, 4, 0), rising.get(rank * 88 / 100));
            x.drop(0);
        }
        x.filter(4, 4, 0, NEAREST, 9);
        due.is("N", x.would(0, 4, 4, 1), 89);
    }
}
