import java.lang.management.ManagementFactory;

/** All calls of a run live in one room: an object makes its rows when it is made, and none in a call. */
public final class RoomTest {
    private static final int WARM = 3;
    private static final long MOST_BYTES_MADE = 40_000, MOST_BYTES_OF_CALLS = 2_000;

    private static long bytes() {
        return ((com.sun.management.ThreadMXBean) ManagementFactory.getThreadMXBean()).getCurrentThreadAllocatedBytes();
    }

    public static void main(String[] args) {
        long made = 0;
        long called = 0;
        for (int k = 0; k <= WARM; k++) {
            long first = bytes();
            DayBelt x = new DayBelt();
            long second = bytes();
            everyCall(x);
            made = second - first;
            called = bytes() - second;
        }
        Check.that("a new object takes " + made + " bytes", made <= MOST_BYTES_MADE);
        Check.that("its calls take " + called + " bytes", called <= MOST_BYTES_OF_CALLS);
        Check.end();
    }

    private static void everyCall(DayBelt x) {
        String text = "6;012345601234;p900,s811,h722,k633,a544,p455";
        for (int k = 0; k < text.length(); k++) {
            x.type(text.charAt(k));
        }
        x.block();
        for (int k = 0; k < 12; k++) {
            x.in(k % 6, k % 2);
            x.steps(60);
            x.drift(60);
            x.out(k % 6);
            x.undo();
            x.seed(k);
            x.of(k % 6, k % 6);
            x.car(k, k % 6);
            x.day(k, k % 7);
            x.rule(k % 2, 10 + k);
            x.count(k % 9);
            x.at(k % 6, k % 2, k);
            x.place(k, k);
            x.comes(k % 7, k % 6, k % 2);
            x.soonest(k % 6, 5 - k % 6, k % 7, k % 2);
            x.never(k % 6, k % 7);
            x.meet(k % 6, (k + 1) % 6, k % 3);
            x.heaviest(k % 2);
            x.changed(k % 6, 5 - k % 6, k % 7, k % 2);
            x.goes(k, k);
            x.image();
            x.restore();
            x.sheet(k % 4, k % 4, 24);
            x.film(k % 6, k % 2, 24, k % 4, k % 4, 0);
            x.item(k % 4, k % 4, 0, 9);
            x.weighed(k % 4, k % 4, 0, 4, k % 2);
            x.copy(k % 4, 0, k % 4, 1, 20);
        }
        x.drop(0);
    }
}
