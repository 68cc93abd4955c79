import java.util.ArrayDeque;
import java.util.ArrayList;
import java.util.Arrays;
import java.util.Collections;
import java.util.Deque;
import java.util.List;

/**
 * The document told a second time with the Java library, lists that are sorted and pictures that are never
 * changed, so that a mistake of the class is not made here in the same way.
 */
final class PlainModel {
    private static final int NONE = -1, UNKNOWN = -1000000001, OUTSIDE = -1000000002, NOT = -1000000003, FULL = -1000000004;

    /** dots[y][x] is the grey; with 1000 more, masked. */
    private record Pic(int[][] dots) {
        int w() {
            return dots[0].length;
        }

        int h() {
            return dots.length;
        }

        int grey(int x, int y) {
            return dots[y][x] % 1000;
        }

        boolean masked(int x, int y) {
            return dots[y][x] >= 1000;
        }

        boolean has(int x, int y) {
            return x >= 0 && y >= 0 && x < w() && y < h();
        }

        Pic with(int x, int y, int dot) {
            int[][] copy = new int[h()][];
            for (int row = 0; row < h(); row++) {
                copy[row] = dots[row].clone();
            }
            copy[y][x] = dot;
            return new Pic(copy);
        }

        List<Integer> open() {
            List<Integer> all = new ArrayList<>();
            for (int[] row : dots) {
                for (int dot : row) {
                    if (dot < 1000) {
                        all.add(dot);
                    }
                }
            }
            return all;
        }

        int differing(Pic other, boolean masksToo) {
            int n = 0;
            for (int y = 0; y < h(); y++) {
                for (int x = 0; x < w(); x++) {
                    boolean same = masksToo ? dots[y][x] == other.dots[y][x] : grey(x, y) == other.grey(x, y);
                    n += same ? 0 : 1;
                }
            }
            return n;
        }
    }

    private record Fil(int across, int down, int rank, int border, int weight) {
    }

    private record Img(Pic pic, List<Fil> filters, int fill, long seed) {
    }

    private String text = "";
    private int faultPlace = NONE;
    private Pic pic = new Pic(new int[][] {{0}});
    private List<Fil> filters = new ArrayList<>();
    private int fill = 0;
    private long seed = 0;
    private final List<int[]> book = new ArrayList<>();
    private final Deque<Pic> undone = new ArrayDeque<>();
    private final Img[] images = new Img[2];

    private void deed(Pic next) {
        undone.addLast(pic);
        if (undone.size() > 16) {
            undone.removeFirst();
        }
        pic = next;
    }

    int feed(int letter) {
        if (letter < 0 || letter > 255) {
            return OUTSIDE;
        }
        if (text.length() == 180) {
            return FULL;
        }
        text += (char) letter;
        return text.length();
    }

    int picture() {
        String was = text;
        text = "";
        faultPlace = NONE;
        for (int p = 0; p <= was.length(); p++) {
            int fault = faultAt(was, p);
            if (fault != 0) {
                faultPlace = p;
                return -10 - fault;
            }
        }
        String[] rows = was.split("/");
        int[][] dots = new int[rows.length][rows[0].length() / 2];
        for (int y = 0; y < rows.length; y++) {
            for (int x = 0; x < dots[y].length; x++) {
                String signs = rows[y].substring(2 * x, 2 * x + 2);
                dots[y][x] = signs.equals("--") ? 1000 : Integer.parseInt(signs, 16);
            }
        }
        deed(new Pic(dots));
        return dots.length * dots[0].length;
    }

    /** All letters ahead of p have no fault. */
    private static int faultAt(String t, int p) {
        String[] rows = t.substring(0, p).split("/", -1);
        String row = rows[rows.length - 1];
        boolean later = rows.length > 1;
        boolean atEnd = p == t.length();
        char c = atEnd ? '/' : t.charAt(p);
        boolean within = row.length() % 2 == 1;
        if (c == '/') {
            if (within || row.isEmpty()) {
                return 1;
            }
            if (later && row.length() < rows[0].length()) {
                return 2;
            }
            return !atEnd && rows.length == 8 ? 3 : 0;
        }
        if ("0123456789abcdef-".indexOf(c) < 0) {
            return 1;
        }
        if (within) {
            boolean dashAhead = row.charAt(row.length() - 1) == '-';
            return dashAhead == (c == '-') ? 0 : 1;
        }
        return row.length() == (later ? rows[0].length() : 20) ? 2 : 0;
    }

    int fault() {
        return faultPlace;
    }

    int told(int what) {
        List<Integer> open = pic.open();
        int[] all = {pic.w(), pic.h(), pic.w() * pic.h() - open.size(),
            open.isEmpty() ? NONE : Collections.min(open), open.isEmpty() ? NONE : Collections.max(open),
            open.stream().mapToInt(Integer::intValue).sum(), text.length(), filters.size(), fill, book.size(),
            wrong(), undone.size()};
        return what < 0 || what >= all.length ? OUTSIDE : all[what];
    }

    private int wrong() {
        for (int i = 0; i < book.size(); i++) {
            int[] entry = book.get(i);
            if (!pic.has(entry[0], entry[1]) || pic.grey(entry[0], entry[1]) != entry[2]) {
                return i;
            }
        }
        return NONE;
    }

    int at(int x, int y, int what) {
        if (!pic.has(x, y)) {
            return UNKNOWN;
        }
        return what == 0 ? pic.grey(x, y) : what == 1 ? pic.dots()[y][x] / 1000 : OUTSIDE;
    }

    int tally(int x, int y, int u, int v, int g) {
        if (!pic.has(x, y) || !pic.has(u, v)) {
            return UNKNOWN;
        }
        if (u < x || v < y || g < -1 || g > 256) {
            return OUTSIDE;
        }
        int n = 0;
        for (int row = y; row <= v; row++) {
            n += (int) Arrays.stream(pic.dots()[row], x, u + 1).filter(d -> d < 1000 && d <= g).count();
        }
        return n;
    }

    int filter(int across, int down, int rank, int border, int weight) {
        if (across < 0 || across > 4 || down < 0 || down > 4 || rank < 0 || rank > 100 || border < 0 || border > 4
            || weight < 1 || weight > 9) {
            return OUTSIDE;
        }
        if (filters.size() == 6) {
            return FULL;
        }
        filters.add(new Fil(across, down, rank, border, weight));
        return filters.size() - 1;
    }

    private boolean lacksFilter(int f) {
        return f < 0 || f >= filters.size();
    }

    int drop(int f) {
        if (lacksFilter(f)) {
            return UNKNOWN;
        }
        filters.remove(f);
        return filters.size();
    }

    int fill(int g) {
        if (g < 0 || g > 255) {
            return OUTSIDE;
        }
        int was = fill;
        fill = g;
        return was;
    }

    private List<Integer> counted(Pic of, Fil f, int x, int y) {
        List<Integer> all = new ArrayList<>();
        for (int dx = -f.across(); dx <= f.across(); dx++) {
            for (int dy = -f.down(); dy <= f.down(); dy++) {
                int times = dx == 0 && dy == 0 ? f.weight() : 1;
                int px = x + dx;
                int py = y + dy;
                if (!of.has(px, py) && f.border() == 4) {
                    all.add(fill);
                    continue;
                }
                if (!of.has(px, py) && f.border() > 0) {
                    px = stands(px, of.w(), f.border());
                    py = stands(py, of.h(), f.border());
                }
                if (of.has(px, py) && !of.masked(px, py)) {
                    all.addAll(Collections.nCopies(times, of.grey(px, py)));
                }
            }
        }
        Collections.sort(all);
        return all;
    }

    private static int stands(int p, int size, int border) {
        int at = p;
        while (at < 0 || at >= size) {
            if (border == 1) {
                at += at < 0 ? 1 : -1;
            } else if (border == 2) {
                at = at < 0 ? -at - 1 : 2 * size - 1 - at;
            } else {
                at += at < 0 ? size : -size;
            }
        }
        return at;
    }

    private int last(Pic of, Fil f, int x, int y) {
        List<Integer> all = counted(of, f, x, y);
        return all.isEmpty() ? NONE : all.get(f.rank() * (all.size() - 1) / 100);
    }

    int would(int f, int x, int y, int what) {
        if (lacksFilter(f) || !pic.has(x, y)) {
            return UNKNOWN;
        }
        List<Integer> all = counted(pic, filters.get(f), x, y);
        switch (what) {
            case 0: return last(pic, filters.get(f), x, y);
            case 1: return all.size();
            case 2: return (int) all.stream().filter(g -> g < pic.grey(x, y)).count();
            case 3: return all.isEmpty() ? NONE : all.get(all.size() - 1) - all.get(0);
            default: return OUTSIDE;
        }
    }

    int bins(int f) {
        return lacksFilter(f) ? UNKNOWN : filteredBy(filters.get(f), pic).open().stream().mapToInt(v -> v / 16 + v % 16 + 2).sum();
    }

    int spikes(int f, int t) {
        if (lacksFilter(f)) {
            return UNKNOWN;
        }
        if (t < 0 || t > 255) {
            return OUTSIDE;
        }
        List<Integer> was = pic.open();
        List<Integer> then = filteredBy(filters.get(f), pic).open();
        int n = 0;
        for (int i = 0; i < was.size(); i++) {
            n += Math.abs(was.get(i) - then.get(i)) > t ? 1 : 0;
        }
        return n;
    }

    private Pic filteredBy(Fil f, Pic of) {
        Pic then = of;
        for (int y = 0; y < of.h(); y++) {
            for (int x = 0; x < of.w(); x++) {
                then = of.masked(x, y) ? then : then.with(x, y, last(of, f, x, y));
            }
        }
        return then;
    }

    int dot(int x, int y, int g) {
        if (!pic.has(x, y)) {
            return UNKNOWN;
        }
        if (g < 0 || g > 255) {
            return OUTSIDE;
        }
        int was = pic.dots()[y][x];
        deed(pic.with(x, y, was / 1000 * 1000 + g));
        return was % 1000;
    }

    int mask(int x, int y, boolean is) {
        if (!pic.has(x, y)) {
            return UNKNOWN;
        }
        deed(pic.with(x, y, pic.grey(x, y) + (is ? 1000 : 0)));
        return told(2);
    }

    int turn(int how) {
        if (how < 0 || how > 3) {
            return OUTSIDE;
        }
        int w = pic.w();
        int h = pic.h();
        if (how == 2 && (h > 10 || w > 8)) {
            return NOT;
        }
        int[][] then = how == 2 ? new int[w][h] : new int[h][w];
        for (int y = 0; y < h; y++) {
            for (int x = 0; x < w; x++) {
                int dot = pic.dots()[y][x];
                switch (how) {
                    case 0: then[y][w - 1 - x] = dot; break;
                    case 1: then[h - 1 - y][x] = dot; break;
                    case 2: then[x][y] = dot; break;
                    default: then[y][x] = dot / 1000 * 1000 + 255 - dot % 1000;
                }
            }
        }
        deed(new Pic(then));
        return pic.w();
    }

    int filtered(int f) {
        if (lacksFilter(f)) {
            return UNKNOWN;
        }
        Pic was = pic;
        deed(filteredBy(filters.get(f), pic));
        return was.differing(pic, false);
    }

    int all() {
        if (filters.isEmpty()) {
            return NOT;
        }
        Pic was = pic;
        Pic then = pic;
        for (Fil f : filters) {
            then = filteredBy(f, then);
        }
        deed(then);
        return was.differing(then, false);
    }

    int until(int f, int n) {
        if (lacksFilter(f)) {
            return UNKNOWN;
        }
        if (n < 1 || n > 20) {
            return OUTSIDE;
        }
        Pic then = pic;
        int often = 0;
        for (int i = 0; i < n; i++) {
            Pic next = filteredBy(filters.get(f), then);
            often += next.differing(then, false) > 0 ? 1 : 0;
            then = next;
        }
        deed(then);
        return often;
    }

    private int draw(int n) {
        seed = Math.floorMod(Math.addExact(Math.multiplyExact(seed, 1103515245L), 12345L), 1L << 31);
        return (int) (seed / 65536 % n);
    }

    int noise(int n) {
        if (n < 1 || n > 12) {
            return OUTSIDE;
        }
        for (int i = 0; i < n; i++) {
            int x = draw(pic.w());
            int y = draw(pic.h());
            int kind = draw(3);
            int grey = kind == 2 ? draw(256) : kind * 255;
            deed(pic.with(x, y, pic.dots()[y][x] / 1000 * 1000 + grey));
        }
        return (int) seed;
    }

    int undo(int n) {
        if (n < 1 || n > 16) {
            return OUTSIDE;
        }
        if (n > undone.size()) {
            return NOT;
        }
        for (int i = 0; i < n; i++) {
            pic = undone.removeLast();
        }
        return undone.size();
    }

    int write(int x, int y, int g) {
        if (!pic.has(x, y)) {
            return UNKNOWN;
        }
        if (book.size() == 20) {
            return FULL;
        }
        book.add(new int[] {x, y, g});
        return book.size();
    }

    int tear() {
        int had = book.size();
        book.clear();
        return had;
    }

    int seed(int v) {
        if (v < 0) {
            return OUTSIDE;
        }
        int was = (int) seed;
        seed = v;
        return was;
    }

    int keep(int i) {
        if (i != 0 && i != 1) {
            return UNKNOWN;
        }
        images[i] = new Img(pic, List.copyOf(filters), fill, seed);
        undone.clear();
        return 1;
    }

    int goBack(int i) {
        if (i != 0 && i != 1) {
            return UNKNOWN;
        }
        if (images[i] == null) {
            return NOT;
        }
        pic = images[i].pic();
        filters = new ArrayList<>(images[i].filters());
        fill = images[i].fill();
        seed = images[i].seed();
        undone.clear();
        return 1;
    }

    int against(int i) {
        if (i != 0 && i != 1) {
            return UNKNOWN;
        }
        if (images[i] == null) {
            return NOT;
        }
        Pic other = images[i].pic();
        return other.w() != pic.w() || other.h() != pic.h() ? NONE : pic.differing(other, true);
    }
}
