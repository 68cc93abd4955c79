/** Promises 5, 6, 7: told, at, tally. */
public final class AskingTest {
    private static final Due due = new Due();

    public static void main(String[] args) {
        tellsAll();
        tellsWhenAllAreMasked();
        tellsOfDots();
        talliesRectangles();
        refusesTallies();
        forgetsAGreaterPicture();
        due.end();
    }

    private static void tellsAll() {
        TalliedWindows x = Due.withPicture("0510--/ff0708");
        x.feed('0');
        x.feed('1');
        x.filter(0, 0, 0, 0, 1);
        x.fill(77);
        x.write(0, 0, 5);
        x.write(1, 0, 17);
        x.write(2, 1, 9);
        int[] due12 = {3, 2, 1, 5, 255, 5 + 16 + 255 + 7 + 8, 2, 1, 77, 3, 1, 1};
        for (int what = 0; what < due12.length; what++) {
            due.is("told(" + what + ")", x.told(what), due12[what]);
        }
        due.is("told(-1)", x.told(-1), TalliedWindows.OUTSIDE);
        due.is("told(12)", x.told(12), TalliedWindows.OUTSIDE);
        x.mask(0, 0, true);
        x.mask(0, 1, true);
        due.is("told(2), more masked", x.told(2), 3);
        due.is("told(3), the least masked", x.told(3), 7);
        due.is("told(4), the greatest masked", x.told(4), 16);
        due.is("told(5), more masked", x.told(5), 16 + 7 + 8);
    }

    private static void tellsWhenAllAreMasked() {
        TalliedWindows x = Due.withPicture("--50");
        x.mask(1, 0, true);
        due.is("told(2), all masked", x.told(2), 2);
        due.is("told(3), all masked", x.told(3), TalliedWindows.NONE);
        due.is("told(4), all masked", x.told(4), TalliedWindows.NONE);
        due.is("told(5), all masked", x.told(5), 0);
    }

    private static void tellsOfDots() {
        TalliedWindows x = Due.withPicture("010203/0405--");
        due.is("at(0, 0, 0)", x.at(0, 0, 0), 1);
        due.is("at(2, 0, 0)", x.at(2, 0, 0), 3);
        due.is("at(1, 1, 0)", x.at(1, 1, 0), 5);
        due.is("at(1, 1, 1)", x.at(1, 1, 1), 0);
        due.is("at(2, 1, 0)", x.at(2, 1, 0), 0);
        due.is("at(2, 1, 1)", x.at(2, 1, 1), 1);
        due.is("at(3, 0, 0)", x.at(3, 0, 0), TalliedWindows.UNKNOWN);
        due.is("at(-1, 0, 0)", x.at(-1, 0, 0), TalliedWindows.UNKNOWN);
        due.is("at(0, 2, 0)", x.at(0, 2, 0), TalliedWindows.UNKNOWN);
        due.is("at(0, -1, 0)", x.at(0, -1, 0), TalliedWindows.UNKNOWN);
        due.is("at(0, 0, 2)", x.at(0, 0, 2), TalliedWindows.OUTSIDE);
        due.is("at(0, 0, -1)", x.at(0, 0, -1), TalliedWindows.OUTSIDE);
        due.is("at(3, 0, 2)", x.at(3, 0, 2), TalliedWindows.UNKNOWN);
    }

    private static void talliesRectangles() {
        TalliedWindows x = Due.withPicture("00102030/4050--70/8090a0ff");
        due.is("tally of all up to 255", x.tally(0, 0, 3, 2, 255), 11);
        due.is("tally of all up to 254", x.tally(0, 0, 3, 2, 254), 10);
        due.is("tally of all up to 80", x.tally(0, 0, 3, 2, 0x50), 6);
        due.is("tally of all up to 79", x.tally(0, 0, 3, 2, 0x4f), 5);
        due.is("tally of all up to 0", x.tally(0, 0, 3, 2, 0), 1);
        due.is("tally of all up to -1", x.tally(0, 0, 3, 2, -1), 0);
        due.is("tally of all up to 256", x.tally(0, 0, 3, 2, 256), 11);
        due.is("tally of the middle", x.tally(1, 1, 2, 2, 255), 3);
        due.is("tally of a column", x.tally(3, 0, 3, 2, 0x70), 2);
        due.is("tally of a row", x.tally(0, 2, 2, 2, 0x90), 2);
        due.is("tally of a masked dot", x.tally(2, 1, 2, 1, 255), 0);
        x.mask(0, 0, true);
        due.is("tally of a dot masked later", x.tally(0, 0, 0, 0, 255), 0);
    }

    private static void refusesTallies() {
        TalliedWindows x = Due.withPicture("0010/2030");
        due.is("tally, u below x", x.tally(1, 0, 0, 1, 9), TalliedWindows.OUTSIDE);
        due.is("tally, v below y", x.tally(0, 1, 1, 0, 9), TalliedWindows.OUTSIDE);
        due.is("tally of -2", x.tally(0, 0, 1, 1, -2), TalliedWindows.OUTSIDE);
        due.is("tally of 257", x.tally(0, 0, 1, 1, 257), TalliedWindows.OUTSIDE);
        due.is("tally, x too great", x.tally(2, 0, 1, 1, 9), TalliedWindows.UNKNOWN);
        due.is("tally, y too small", x.tally(0, -1, 1, 1, 9), TalliedWindows.UNKNOWN);
        due.is("tally, u too great", x.tally(0, 0, 2, 1, 9), TalliedWindows.UNKNOWN);
        due.is("tally, v too great", x.tally(0, 0, 1, 2, 9), TalliedWindows.UNKNOWN);
        due.is("tally, u below x, out of it", x.tally(0, 0, -1, 0, 999), TalliedWindows.UNKNOWN);
    }

    /** Nothing of what stood there may be found behind the dots of a smaller picture. */
    private static void forgetsAGreaterPicture() {
        TalliedWindows x = Due.withPicture("20--00--ff/--ff--00ff/000000----");
        x.keep(0);
        for (String text : new String[] {"30", "3031", "30/31", "303132/404142"}) {
            Due.feedAll(x, text);
            x.picture();
            int sum = text.length() == 2 ? 0x30 : text.length() < 6 ? 0x61 : 0x30 + 0x31 + 0x32 + 0x40 + 0x41 + 0x42;
            due.is("told(2) of " + text, x.told(2), 0);
            due.is("told(3) of " + text, x.told(3), 0x30);
            due.is("told(5) of " + text, x.told(5), sum);
            x.keep(1);
            due.is("against(1) of " + text, x.against(1), 0);
            x.filter(0, 0, 50, 0, 1);
            due.is("filtered(0) of " + text, x.filtered(0), 0);
            x.goBack(0);
        }
    }
}
