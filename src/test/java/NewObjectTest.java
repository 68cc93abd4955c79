/** Promise 1: what is so at first. */
public final class NewObjectTest {
    public static void main(String[] args) {
        Due due = new Due();
        TalliedWindows x = new TalliedWindows();
        int[] atFirst = {1, 1, 0, 0, 0, 0, 0, 0, 0, 0, -1, 0};
        for (int what = 0; what < atFirst.length; what++) {
            due.is("told(" + what + ")", x.told(what), atFirst[what]);
        }
        due.is("fault()", x.fault(), TalliedWindows.NONE);
        due.shows("a new object", x, "00");
        due.is("drop(0)", x.drop(0), TalliedWindows.UNKNOWN);
        due.is("against(0)", x.against(0), TalliedWindows.NOT);
        due.is("against(1)", x.against(1), TalliedWindows.NOT);
        due.is("tear()", x.tear(), 0);
        due.is("fill(9)", x.fill(9), 0);
        due.is("seed(9)", x.seed(9), 0);
        due.is("another object's fill(9)", new TalliedWindows().fill(9), 0);
        due.end();
    }
}
