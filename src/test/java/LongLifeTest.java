import com.sun.management.ThreadMXBean;
import java.lang.management.ManagementFactory;
import java.util.function.Consumer;

/** "An object is used for at most 512 calls": the 512th is answered as the first, and they make few objects. */
public final class LongLifeTest {
    private static final int CALLS = 512;
    /** Far below the room of a run, some 600,000 objects with 7.3 million fields and elements. */
    private static final long MOST_BYTES = 100_000;
    /** 167 letters, picture, keep, five filters, the call once ahead of the measure. */
    private static final int AHEAD = 167 + 1 + 1 + 5 + 1;

    private static final Due due = new Due();

    public static void main(String[] args) {
        feedsToTheEnd();
        setsToTheEnd();
        drawsToTheEnd();
        keepsToTheEnd();
        addsAndDropsToTheEnd();
        needsLittleRoom();
        due.end();
    }

    private static void feedsToTheEnd() {
        TalliedWindows x = new TalliedWindows();
        for (int call = 1; call < CALLS; call += 2) {
            due.is("feed as call " + call, x.feed('g'), 1);
            due.is("picture as call " + (call + 1), x.picture(), -11);
        }
    }

    private static void setsToTheEnd() {
        TalliedWindows x = new TalliedWindows();
        for (int call = 1; call < CALLS; call++) {
            due.is("dot as call " + call, x.dot(0, 0, call % 256), (call - 1) % 256);
        }
        due.is("undo(16) as the last call", x.undo(16), 0);
    }

    private static void drawsToTheEnd() {
        TalliedWindows x = new TalliedWindows();
        int seed = 0;
        for (int call = 1; call <= CALLS; call++) {
            seed = x.noise(12);
        }
        // reckoned outside Java
        due.is("the seed behind 512 times noise(12)", seed, 1235550411);
    }

    private static void keepsToTheEnd() {
        TalliedWindows x = new TalliedWindows();
        for (int call = 1; call < CALLS; call += 4) {
            due.is("keep", x.keep(call % 2), 1);
            due.is("turn(3)", x.turn(3), 1);
            due.is("against", x.against(call % 2), 1);
            due.is("goBack", x.goBack(call % 2), 1);
        }
    }

    private static void addsAndDropsToTheEnd() {
        TalliedWindows x = new TalliedWindows();
        for (int call = 1; call < CALLS; call += 4) {
            due.is("filter", x.filter(4, 4, 50, 2, 9), 0);
            due.is("would", x.would(0, 0, 0, 1), 89);
            due.is("until", x.until(0, 20), 0);
            due.is("drop", x.drop(0), 0);
        }
    }

    /** The greatest picture and window, with the calls that look at the most dots or make something. */
    private static void needsLittleRoom() {
        needsLittle("until", x -> x.until(0, 20));
        needsLittle("all", x -> x.all());
        needsLittle("filtered", x -> x.filtered(0));
        needsLittle("bins", x -> x.bins(0));
        needsLittle("spikes", x -> x.spikes(0, 0));
        needsLittle("would", x -> x.would(0, 0, 0, 3));
        needsLittle("noise", x -> x.noise(12));
        needsLittle("turn", x -> x.turn(0));
        needsLittle("keep", x -> x.keep(0));
        needsLittle("goBack", x -> x.goBack(0));
        needsLittle("undo", x -> x.undo(1));
        needsLittle("picture", x -> x.picture());
        needsLittle("filter", x -> x.filter(4, 4, 50, 3, 9));
        needsLittle("drop", x -> x.drop(0));
    }

    private static void needsLittle(String name, Consumer<TalliedWindows> call) {
        TalliedWindows x = Due.withPicture(Due.rows("77", 10, 8));
        x.keep(0);
        for (int f = 0; f < 5; f++) {
            x.filter(4, 4, 50, 3, 9);
        }
        call.accept(x);
        ThreadMXBean thread = (ThreadMXBean) ManagementFactory.getThreadMXBean();
        long was = thread.getThreadAllocatedBytes(Thread.currentThread().getId());
        for (int i = 0; i < CALLS - AHEAD; i++) {
            call.accept(x);
        }
        long made = thread.getThreadAllocatedBytes(Thread.currentThread().getId()) - was;
        due.holds(name + " made " + made + " bytes", made < MOST_BYTES);
    }
}
