/** Promises 22, 23: write, tear. */
public final class BookTest {
    private static final Due due = new Due();

    public static void main(String[] args) {
        judgesDots();
        refusesEntries();
        judgesDotsThatAreNoMore();
        due.end();
    }

    private static void judgesDots() {
        TalliedWindows x = Due.withPicture("1020/30--");
        due.is("write(0, 0, 16)", x.write(0, 0, 16), 1);
        due.is("write(1, 0, 33)", x.write(1, 0, 33), 2);
        due.is("write(1, 1, 0), masked", x.write(1, 1, 0), 3);
        due.is("write(0, 1, -7), any", x.write(0, 1, -7), 4);
        due.is("told(9)", x.told(9), 4);
        due.is("told(10)", x.told(10), 1);
        x.dot(1, 0, 33);
        due.is("told(10), the first mended", x.told(10), 3);
        x.dot(1, 1, 5);
        due.is("told(10), a masked one otherwise", x.told(10), 2);
        x.undo(1);
        due.is("tear()", x.tear(), 4);
        due.is("told(9) behind tear()", x.told(9), 0);
        due.is("told(10) behind tear()", x.told(10), TalliedWindows.NONE);
        due.is("tear() again", x.tear(), 0);
        due.is("write behind tear()", x.write(0, 1, 0x30), 1);
        due.is("told(10), all as written", x.told(10), TalliedWindows.NONE);
        due.is("told(11), the book is no deed", x.told(11), 2);
    }

    private static void refusesEntries() {
        TalliedWindows x = new TalliedWindows();
        due.is("write(1, 0, 0)", x.write(1, 0, 0), TalliedWindows.UNKNOWN);
        due.is("write(0, -1, 0)", x.write(0, -1, 0), TalliedWindows.UNKNOWN);
        due.is("told(9) behind refusals", x.told(9), 0);
        for (int n = 1; n <= 20; n++) {
            due.is("entry " + n, x.write(0, 0, 0), n);
        }
        due.is("a further entry", x.write(0, 0, 1), TalliedWindows.FULL);
        due.is("a further entry of no dot", x.write(1, 0, 1), TalliedWindows.UNKNOWN);
        due.is("told(9)", x.told(9), 20);
        due.is("told(10)", x.told(10), TalliedWindows.NONE);
        x.dot(0, 0, 1);
        due.is("told(10), all are wrong", x.told(10), 0);
    }

    private static void judgesDotsThatAreNoMore() {
        TalliedWindows x = Due.withPicture("0000/0000/0000");
        x.write(0, 0, 0);
        x.write(0, 2, 0);
        due.is("told(10)", x.told(10), TalliedWindows.NONE);
        x.turn(2);
        due.is("told(10), row 2 is no more", x.told(10), 1);
        x.undo(1);
        due.is("told(10), row 2 is back", x.told(10), TalliedWindows.NONE);
    }
}
