import java.util.Arrays;

/** Small grey pictures and rank filters over them, as ../shared/DOC.md promises. */
public final class TalliedWindows {
    public static final int NONE = -1, UNKNOWN = -1000000001, OUTSIDE = -1000000002, NOT = -1000000003, FULL = -1000000004;

    private static final int MOST_WIDTH = 10, MOST_HEIGHT = 8, GREATEST_GREY = 255;
    private static final int NO_FAULT = 0, FAULTS_BEGIN = -10;
    private static final int LEFT_RIGHT = 0, TOP_BOTTOM = 1, X_Y = 2, NEGATIVE = 3;
    private static final int IMAGES = 2;

    private final Text text = new Text();
    private final State now = new State();
    private final State[] images = {new State(), new State()};
    private final boolean[] wasKept = new boolean[IMAGES];
    private final History history = new History();
    private final Book book = new Book();
    private final Window window = new Window();
    // Made once and used again by every call that builds a picture aside.
    private final Picture spare = new Picture();
    private final Picture ahead = new Picture();
    private int faultPlace = NONE;

    public TalliedWindows() {
    }

    // ---- the picture

    public int feed(int letter) {
        if (!within(letter, 0, 255)) {
            return OUTSIDE;
        }
        return text.append(letter);
    }

    public int picture() {
        int fault = text.readInto(spare);
        faultPlace = fault == NO_FAULT ? NONE : text.placeRead();
        text.clear();
        if (fault != NO_FAULT) {
            return FAULTS_BEGIN - fault;
        }
        history.remember(now.picture);
        now.picture.become(spare);
        return now.picture.dots();
    }

    public int fault() {
        return faultPlace;
    }

    public int told(int what) {
        switch (what) {
            case 0: return now.picture.width;
            case 1: return now.picture.height;
            case 2: return now.picture.maskedDots();
            case 3: return now.picture.leastGrey();
            case 4: return now.picture.greatestGrey();
            case 5: return now.picture.greysTogether();
            case 6: return text.length;
            case 7: return now.filters.count;
            case 8: return now.fillGrey;
            case 9: return book.count;
            case 10: return book.firstWrong(now.picture);
            case 11: return history.count;
            default: return OUTSIDE;
        }
    }

    public int at(int x, int y, int what) {
        if (!now.picture.has(x, y)) {
            return UNKNOWN;
        }
        switch (what) {
            case 0: return now.picture.greyOf(x, y);
            case 1: return now.picture.isMasked(x, y) ? 1 : 0;
            default: return OUTSIDE;
        }
    }

    public int tally(int x, int y, int u, int v, int g) {
        if (!now.picture.has(x, y) || !now.picture.has(u, v)) {
            return UNKNOWN;
        }
        if (u < x || v < y || !within(g, -1, GREATEST_GREY + 1)) {
            return OUTSIDE;
        }
        return now.picture.dotsUpTo(x, y, u, v, g);
    }

    // ---- filters

    public int filter(int across, int down, int rank, int border, int weight) {
        if (!within(across, 0, 4) || !within(down, 0, 4) || !within(rank, 0, 100)) {
            return OUTSIDE;
        }
        if (!within(border, 0, 4) || !within(weight, 1, 9)) {
            return OUTSIDE;
        }
        if (now.filters.isFull()) {
            return FULL;
        }
        return now.filters.add(new Filter(across, down, rank, border, weight));
    }

    public int drop(int f) {
        if (now.filters.numbered(f) == null) {
            return UNKNOWN;
        }
        return now.filters.remove(f);
    }

    public int fill(int g) {
        if (!within(g, 0, GREATEST_GREY)) {
            return OUTSIDE;
        }
        int was = now.fillGrey;
        now.fillGrey = g;
        return was;
    }

    public int would(int f, int x, int y, int what) {
        Filter by = now.filters.numbered(f);
        if (by == null || !now.picture.has(x, y)) {
            return UNKNOWN;
        }
        if (!within(what, 0, 3)) {
            return OUTSIDE;
        }
        window.lookAt(now.picture, by, now.fillGrey, x, y);
        switch (what) {
            case 0: return window.ranked(by.rank);
            case 1: return window.counted;
            case 2: return window.countedBelow(now.picture.greyOf(x, y));
            default: return window.spread();
        }
    }

    public int bins(int f) {
        Filter by = now.filters.numbered(f);
        if (by == null) {
            return UNKNOWN;
        }
        int together = 0;
        for (int y = 0; y < now.picture.height; y++) {
            for (int x = 0; x < now.picture.width; x++) {
                if (!now.picture.isMasked(x, y)) {
                    int last = lastOf(by, x, y);
                    together += last / Window.FINE_IN_COARSE + last % Window.FINE_IN_COARSE + 2;
                }
            }
        }
        return together;
    }

    public int spikes(int f, int t) {
        Filter by = now.filters.numbered(f);
        if (by == null) {
            return UNKNOWN;
        }
        if (!within(t, 0, GREATEST_GREY)) {
            return OUTSIDE;
        }
        int found = 0;
        for (int y = 0; y < now.picture.height; y++) {
            for (int x = 0; x < now.picture.width; x++) {
                if (!now.picture.isMasked(x, y) && Math.abs(now.picture.greyOf(x, y) - lastOf(by, x, y)) > t) {
                    found++;
                }
            }
        }
        return found;
    }

    // ---- deeds

    public int dot(int x, int y, int g) {
        if (!now.picture.has(x, y)) {
            return UNKNOWN;
        }
        if (!within(g, 0, GREATEST_GREY)) {
            return OUTSIDE;
        }
        history.remember(now.picture);
        int was = now.picture.greyOf(x, y);
        now.picture.setGrey(x, y, g);
        return was;
    }

    public int mask(int x, int y, boolean is) {
        if (!now.picture.has(x, y)) {
            return UNKNOWN;
        }
        history.remember(now.picture);
        now.picture.setMasked(x, y, is);
        return now.picture.maskedDots();
    }

    public int turn(int how) {
        if (!within(how, LEFT_RIGHT, NEGATIVE)) {
            return OUTSIDE;
        }
        if (how == X_Y && (now.picture.height > MOST_WIDTH || now.picture.width > MOST_HEIGHT)) {
            return NOT;
        }
        history.remember(now.picture);
        spare.becomeTurned(now.picture, how);
        now.picture.become(spare);
        return now.picture.width;
    }

    public int filtered(int f) {
        Filter by = now.filters.numbered(f);
        if (by == null) {
            return UNKNOWN;
        }
        history.remember(now.picture);
        return apply(by);
    }

    public int all() {
        if (now.filters.count == 0) {
            return NOT;
        }
        history.remember(now.picture);
        ahead.become(now.picture);
        for (int f = 0; f < now.filters.count; f++) {
            Filter by = now.filters.numbered(f);
            if (by != null) {
                apply(by);
            }
        }
        return now.picture.greysOtherThan(ahead);
    }

    public int until(int f, int n) {
        Filter by = now.filters.numbered(f);
        if (by == null) {
            return UNKNOWN;
        }
        if (!within(n, 1, 20)) {
            return OUTSIDE;
        }
        history.remember(now.picture);
        int changes = 0;
        while (changes < n && apply(by) > 0) {
            changes++;
        }
        return changes;
    }

    public int noise(int n) {
        if (!within(n, 1, 12)) {
            return OUTSIDE;
        }
        for (int i = 0; i < n; i++) {
            // Each speck is a deed of its own, so that it can be undone alone.
            history.remember(now.picture);
            now.speckle();
        }
        return now.seed;
    }

    public int undo(int n) {
        if (!within(n, 1, History.MOST)) {
            return OUTSIDE;
        }
        if (n > history.count) {
            return NOT;
        }
        history.takeBack(n, now.picture);
        return history.count;
    }

    // ---- the book

    public int write(int x, int y, int g) {
        if (!now.picture.has(x, y)) {
            return UNKNOWN;
        }
        return book.add(x, y, g);
    }

    public int tear() {
        int had = book.count;
        book.count = 0;
        return had;
    }

    // ---- images

    public int seed(int v) {
        if (v < 0) {
            return OUTSIDE;
        }
        int was = now.seed;
        now.seed = v;
        return was;
    }

    public int keep(int i) {
        if (!within(i, 0, IMAGES - 1)) {
            return UNKNOWN;
        }
        images[i].become(now);
        wasKept[i] = true;
        history.forget();
        return 1;
    }

    public int goBack(int i) {
        if (!within(i, 0, IMAGES - 1)) {
            return UNKNOWN;
        }
        if (!wasKept[i]) {
            return NOT;
        }
        now.become(images[i]);
        history.forget();
        return 1;
    }

    public int against(int i) {
        if (!within(i, 0, IMAGES - 1)) {
            return UNKNOWN;
        }
        if (!wasKept[i]) {
            return NOT;
        }
        return now.picture.dotsOtherThan(images[i].picture);
    }

    // ---- what several calls use

    private static boolean within(int number, int least, int greatest) {
        return least <= number && number <= greatest;
    }

    private int lastOf(Filter by, int x, int y) {
        window.lookAt(now.picture, by, now.fillGrey, x, y);
        return window.ranked(by.rank);
    }

    /** Puts the filtered picture in place of the present one; how many greys are otherwise then. */
    private int apply(Filter by) {
        // Built aside, since every window has to see the greys from before.
        spare.become(now.picture);
        for (int y = 0; y < now.picture.height; y++) {
            for (int x = 0; x < now.picture.width; x++) {
                if (!now.picture.isMasked(x, y)) {
                    spare.setGrey(x, y, lastOf(by, x, y));
                }
            }
        }
        int changed = now.picture.greysOtherThan(spare);
        now.picture.become(spare);
        return changed;
    }

    /** Dots row by row, without gaps: all that has the same width has the same places. */
    private static final class Picture {
        int width = 1;
        int height = 1;
        private final int[] greys = new int[MOST_WIDTH * MOST_HEIGHT];
        private final boolean[] masks = new boolean[MOST_WIDTH * MOST_HEIGHT];

        int dots() {
            return width * height;
        }

        boolean has(int x, int y) {
            return 0 <= x && x < width && 0 <= y && y < height;
        }

        int greyOf(int x, int y) {
            return has(x, y) ? greys[y * width + x] : 0;
        }

        boolean isMasked(int x, int y) {
            return has(x, y) && masks[y * width + x];
        }

        void setGrey(int x, int y, int grey) {
            if (has(x, y)) {
                greys[y * width + x] = grey;
            }
        }

        void setMasked(int x, int y, boolean is) {
            if (has(x, y)) {
                masks[y * width + x] = is;
            }
        }

        /** For a reader, which knows the width only behind the first row. */
        void setInOrder(int number, int grey, boolean is) {
            if (within(number, 0, MOST_WIDTH * MOST_HEIGHT - 1)) {
                greys[number] = grey;
                masks[number] = is;
            }
        }

        void setSize(int newWidth, int newHeight) {
            if (within(newWidth, 1, MOST_WIDTH) && within(newHeight, 1, MOST_HEIGHT)) {
                width = newWidth;
                height = newHeight;
            }
        }

        void become(Picture other) {
            setSize(other.width, other.height);
            for (int i = 0; i < dots(); i++) {
                greys[i] = other.greys[i];
                masks[i] = other.masks[i];
            }
        }

        void becomeTurned(Picture other, int how) {
            boolean swaps = how == X_Y;
            setSize(swaps ? other.height : other.width, swaps ? other.width : other.height);
            for (int y = 0; y < height; y++) {
                for (int x = 0; x < width; x++) {
                    int fromX = swaps ? y : how == LEFT_RIGHT ? width - 1 - x : x;
                    int fromY = swaps ? x : how == TOP_BOTTOM ? height - 1 - y : y;
                    int grey = other.greyOf(fromX, fromY);
                    setGrey(x, y, how == NEGATIVE ? GREATEST_GREY - grey : grey);
                    setMasked(x, y, other.isMasked(fromX, fromY));
                }
            }
        }

        int maskedDots() {
            int found = 0;
            for (int i = 0; i < dots(); i++) {
                if (masks[i]) {
                    found++;
                }
            }
            return found;
        }

        int leastGrey() {
            int least = NONE;
            for (int i = 0; i < dots(); i++) {
                if (!masks[i] && (least == NONE || greys[i] < least)) {
                    least = greys[i];
                }
            }
            return least;
        }

        int greatestGrey() {
            int greatest = NONE;
            for (int i = 0; i < dots(); i++) {
                if (!masks[i] && greys[i] > greatest) {
                    greatest = greys[i];
                }
            }
            return greatest;
        }

        int greysTogether() {
            int together = 0;
            for (int i = 0; i < dots(); i++) {
                if (!masks[i]) {
                    together += greys[i];
                }
            }
            return together;
        }

        int dotsUpTo(int x, int y, int u, int v, int grey) {
            int found = 0;
            for (int row = y; row <= v; row++) {
                for (int column = x; column <= u; column++) {
                    if (!isMasked(column, row) && greyOf(column, row) <= grey) {
                        found++;
                    }
                }
            }
            return found;
        }

        /** Of a picture with the same width and height: how many greys are otherwise. */
        int greysOtherThan(Picture other) {
            int found = 0;
            for (int i = 0; i < dots(); i++) {
                if (greys[i] != other.greys[i]) {
                    found++;
                }
            }
            return found;
        }

        int dotsOtherThan(Picture other) {
            if (width != other.width || height != other.height) {
                return NONE;
            }
            int found = 0;
            for (int i = 0; i < dots(); i++) {
                if (greys[i] != other.greys[i] || masks[i] != other.masks[i]) {
                    found++;
                }
            }
            return found;
        }
    }

    /** The letters that came since the latest reading. */
    private static final class Text {
        static final int MOST = 180;

        int length = 0;
        private final int[] letters = new int[MOST];
        private int place = 0;

        int append(int letter) {
            if (length >= MOST) {
                return FULL;
            }
            letters[length] = letter;
            length++;
            return length;
        }

        void clear() {
            length = 0;
        }

        /** Where the latest reading stopped. */
        int placeRead() {
            return place;
        }

        /** The number of the first fault; with NO_FAULT the picture is what the text tells. */
        int readInto(Picture picture) {
            Reader reader = new Reader(picture);
            for (int i = 0; i < length; i++) {
                place = i;
                int fault = reader.take(letters[i]);
                if (fault != NO_FAULT) {
                    return fault;
                }
            }
            place = length;
            return reader.takeRowEnd(true);
        }
    }

    /** Takes a text letter by letter and tells the fault of each. */
    private static final class Reader {
        private static final int CANNOT_STAND = 1, WRONG_WIDTH = 2, TOO_HIGH = 3;
        private static final int DASH = 16;

        private final Picture into;
        private int dotsRead = 0;
        private int width = MOST_WIDTH;
        private int row = 0;
        private int column = 0;
        private int firstSign = NONE;

        Reader(Picture into) {
            this.into = into;
        }

        int take(int letter) {
            if (letter == '/') {
                return takeRowEnd(false);
            }
            int sign = signOf(letter);
            if (sign == NONE) {
                return CANNOT_STAND;
            }
            return firstSign == NONE ? takeFirstSign(sign) : takeSecondSign(sign);
        }

        int takeRowEnd(boolean isTextEnd) {
            if (firstSign != NONE || column == 0) {
                return CANNOT_STAND;
            }
            if (row == 0) {
                width = column;
            }
            if (column < width) {
                return WRONG_WIDTH;
            }
            row++;
            column = 0;
            if (isTextEnd) {
                into.setSize(width, row);
                return NO_FAULT;
            }
            return row < MOST_HEIGHT ? NO_FAULT : TOO_HIGH;
        }

        private int takeFirstSign(int sign) {
            // In the first row the width is still the most that a row may have.
            if (column >= width) {
                return WRONG_WIDTH;
            }
            firstSign = sign;
            return NO_FAULT;
        }

        private int takeSecondSign(int sign) {
            boolean isMask = firstSign == DASH;
            if (isMask != (sign == DASH)) {
                return CANNOT_STAND;
            }
            into.setInOrder(dotsRead, isMask ? 0 : firstSign * 16 + sign, isMask);
            dotsRead++;
            column++;
            firstSign = NONE;
            return NO_FAULT;
        }

        private static int signOf(int letter) {
            if (within(letter, '0', '9')) {
                return letter - '0';
            }
            if (within(letter, 'a', 'f')) {
                return letter - 'a' + 10;
            }
            return letter == '-' ? DASH : NONE;
        }
    }

    /** Never changed once made, so that images can share it. */
    private static final class Filter {
        final int across;
        final int down;
        final int rank;
        final int border;
        final int weight;

        Filter(int across, int down, int rank, int border, int weight) {
            this.across = across;
            this.down = down;
            this.rank = rank;
            this.border = border;
            this.weight = weight;
        }
    }

    private static final class Filters {
        static final int MOST = 6;

        int count = 0;
        private final Filter[] inOrder = new Filter[MOST];

        boolean isFull() {
            return count >= MOST;
        }

        Filter numbered(int f) {
            return within(f, 0, count - 1) ? inOrder[f] : null;
        }

        int add(Filter filter) {
            if (isFull()) {
                return FULL;
            }
            inOrder[count] = filter;
            count++;
            return count - 1;
        }

        int remove(int f) {
            if (!within(f, 0, count - 1)) {
                return UNKNOWN;
            }
            count--;
            for (int i = f; i < count; i++) {
                inOrder[i] = inOrder[i + 1];
            }
            return count;
        }

        void become(Filters other) {
            count = other.count;
            for (int i = 0; i < count; i++) {
                inOrder[i] = other.inOrder[i];
            }
        }
    }

    /** The tally of what one window counts, in coarse bins and in fine ones. */
    private static final class Window {
        static final int FINE_IN_COARSE = 16;

        private static final int NEAREST = 1, MIRROR = 2, AGAIN = 3, BY_FILL = 4;
        private static final int COARSE_BINS = 16, FINE_BINS = 256;

        int counted = 0;
        private final int[] coarse = new int[COARSE_BINS];
        private final int[] fine = new int[FINE_BINS];

        void lookAt(Picture picture, Filter by, int fillGrey, int x, int y) {
            counted = 0;
            Arrays.fill(coarse, 0);
            Arrays.fill(fine, 0);
            for (int placeY = y - by.down; placeY <= y + by.down; placeY++) {
                countRow(picture, by, fillGrey, x, standingFor(placeY, picture.height, by.border));
            }
            if (!picture.isMasked(x, y)) {
                // The loop above has counted the dot itself once.
                count(picture.greyOf(x, y), by.weight - 1);
            }
        }

        /** Of all that is counted, rising, the one that has the rank. */
        int ranked(int rank) {
            if (counted == 0) {
                return NONE;
            }
            int ahead = rank * (counted - 1) / 100;
            int bin = 0;
            while (bin < COARSE_BINS - 1 && ahead >= coarse[bin]) {
                ahead -= coarse[bin];
                bin++;
            }
            int grey = bin * FINE_IN_COARSE;
            while (grey < FINE_BINS - 1 && ahead >= fine[grey]) {
                ahead -= fine[grey];
                grey++;
            }
            return grey;
        }

        int countedBelow(int grey) {
            int found = 0;
            for (int i = 0; i < grey && i < FINE_BINS; i++) {
                found += fine[i];
            }
            return found;
        }

        int spread() {
            return counted == 0 ? NONE : ranked(100) - ranked(0);
        }

        private void countRow(Picture picture, Filter by, int fillGrey, int x, int row) {
            for (int placeX = x - by.across; placeX <= x + by.across; placeX++) {
                int column = standingFor(placeX, picture.width, by.border);
                if (row == NONE || column == NONE) {
                    count(fillGrey, by.border == BY_FILL ? 1 : 0);
                } else if (!picture.isMasked(column, row)) {
                    count(picture.greyOf(column, row), 1);
                }
            }
        }

        private void count(int grey, int times) {
            if (within(grey, 0, FINE_BINS - 1)) {
                counted += times;
                coarse[grey / FINE_IN_COARSE] += times;
                fine[grey] += times;
            }
        }

        /** The x or y of the dot that stands for a place; NONE, if none does. */
        private static int standingFor(int place, int size, int border) {
            if (size < 1) {
                return NONE;
            }
            if (within(place, 0, size - 1)) {
                return place;
            }
            // Two mirrors that face each other show the row again after twice its length.
            int behind = Math.floorMod(place, 2 * size);
            switch (border) {
                case NEAREST: return place < 0 ? 0 : size - 1;
                case MIRROR: return Math.min(behind, 2 * size - 1 - behind);
                case AGAIN: return Math.floorMod(place, size);
                default: return NONE;
            }
        }
    }

    /** What an image keeps. */
    private static final class State {
        final Picture picture = new Picture();
        final Filters filters = new Filters();
        int fillGrey = 0;
        int seed = 0;

        void become(State other) {
            picture.become(other.picture);
            filters.become(other.filters);
            fillGrey = other.fillGrey;
            seed = other.seed;
        }

        void speckle() {
            int x = draw(picture.width);
            int y = draw(picture.height);
            int kind = draw(3);
            int grey = kind == 0 ? 0 : kind == 1 ? GREATEST_GREY : draw(GREATEST_GREY + 1);
            picture.setGrey(x, y, grey);
        }

        private int draw(int n) {
            seed = (int) ((seed * 1103515245L + 12345L) % 2147483648L);
            return n > 0 ? seed / 65536 % n : 0;
        }
    }

    /** The pictures from ahead of the latest deeds, in a ring whose oldest gives way. */
    private static final class History {
        static final int MOST = 16;

        int count = 0;
        private int oldest = 0;
        private final Picture[] ring = new Picture[MOST];

        History() {
            for (int i = 0; i < MOST; i++) {
                ring[i] = new Picture();
            }
        }

        void remember(Picture picture) {
            ring[(oldest + count) % MOST].become(picture);
            if (count < MOST) {
                count++;
            } else {
                oldest = (oldest + 1) % MOST;
            }
        }

        void takeBack(int n, Picture picture) {
            if (within(n, 1, count)) {
                count -= n;
                picture.become(ring[(oldest + count) % MOST]);
            }
        }

        void forget() {
            count = 0;
        }
    }

    /** Greys that dots are said to have. */
    private static final class Book {
        static final int MOST = 20;

        int count = 0;
        private final int[] xs = new int[MOST];
        private final int[] ys = new int[MOST];
        private final int[] greys = new int[MOST];

        int add(int x, int y, int grey) {
            if (count >= MOST) {
                return FULL;
            }
            xs[count] = x;
            ys[count] = y;
            greys[count] = grey;
            count++;
            return count;
        }

        int firstWrong(Picture picture) {
            for (int i = 0; i < count; i++) {
                if (!picture.has(xs[i], ys[i]) || picture.greyOf(xs[i], ys[i]) != greys[i]) {
                    return i;
                }
            }
            return NONE;
        }
    }
}
