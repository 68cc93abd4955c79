/** Counts the answers of a test that are not the ones that are due. */
final class Due {
    private int wrong = 0;
    private int asked = 0;

    void is(String call, long got, long want) {
        asked++;
        if (got != want) {
            wrong++;
            System.out.println(call + " answered " + got + ", due is " + want);
        }
    }

    void holds(String what, boolean does) {
        is(what, does ? 1 : 0, 1);
    }

    void reads(String what, String got, String want) {
        asked++;
        if (!got.equals(want)) {
            wrong++;
            System.out.println(what + " reads " + got + ", due is " + want);
        }
    }

    /** All greys, row by row, as a text would tell them; masked dots in brackets, since they may have a grey. */
    void shows(String when, TalliedWindows x, String want) {
        reads(when, shown(x), want);
    }

    void end() {
        System.out.println(asked + " asked, " + wrong + " wrong");
        if (wrong != 0 || asked == 0) {
            System.exit(1);
        }
    }

    static String shown(TalliedWindows x) {
        StringBuilder all = new StringBuilder();
        for (int row = 0; row < x.told(1); row++) {
            all.append(row == 0 ? "" : "/");
            for (int column = 0; column < x.told(0); column++) {
                String grey = String.format("%02x", x.at(column, row, 0));
                all.append(x.at(column, row, 1) == 1 ? "(" + grey + ")" : grey);
            }
        }
        return all.toString();
    }

    /** The text of a picture of w by h whose dots are all the same. */
    static String rows(String dot, int w, int h) {
        return (dot.repeat(w) + "/").repeat(h - 1) + dot.repeat(w);
    }

    static void feedAll(TalliedWindows x, String text) {
        for (int i = 0; i < text.length(); i++) {
            x.feed(text.charAt(i));
        }
    }

    static TalliedWindows withPicture(String text) {
        TalliedWindows x = new TalliedWindows();
        feedAll(x, text);
        if (x.picture() < 0) {
            throw new IllegalStateException("the test's own text has a fault: " + text);
        }
        return x;
    }
}
