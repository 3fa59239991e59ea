import java.lang.management.ManagementFactory;

/**
 * What a run of 512 calls makes in all stays far below 600,000 objects and 7.3 million fields and elements,
 * also where each call is the dearest of its sort. Counted by bytes: an element takes one at least.
 */
public final class RoomTest {
    private static final Check CHECK = new Check("room");
    private static final int CALLS = 512, MANY = 1000000, NOTHING = 1000;
    private static final com.sun.management.ThreadMXBean THREADS =
        (com.sun.management.ThreadMXBean) ManagementFactory.getThreadMXBean();

    public static void main(String[] args) {
        long before = bytesMade();
        fill();
        made("all machines, orders, terms and some readings", before, MANY);
        refuse();
        answer();
        CHECK.done();
    }

    private static long bytesMade() {
        return THREADS.getThreadAllocatedBytes(Thread.currentThread().getId());
    }

    private static void made(String what, long before, int most) {
        long made = bytesMade() - before;
        CHECK.is(what + ": " + made + " bytes, " + most + " at most", made <= most ? 1 : 0, 1);
    }

    /** As many of each as a run of calls has room for. */
    private static void fill() {
        Scene s = Scene.hire();
        for (int i = 0; i < 89; i++) {
            s.yard.machine(0, 0, 0);
        }
        for (int i = 0; i < 99; i++) {
            s.yard.order(0, 0, 0, 1, 1);
        }
        for (int i = 0; i < 16; i++) {
            feedLongest(s.yard);
            CHECK.is("a text of 200 bytes", s.yard.terms(0, 0), i);
        }
        for (int i = 0; i < 60; i++) {
            s.yard.hours(1);
            s.yard.read(0, i);
        }
    }

    private static void feedLongest(HireYard yard) {
        // "1+1+" over and over, the last one without its sign.
        int piece = 0x312b312b;
        for (int i = 0; i < 9; i++) {
            yard.feed(piece, piece, piece, piece, piece);
        }
        yard.feed(piece, piece, piece, piece, 0x312b3120);
    }

    /** Calls that are refused make nothing. */
    private static void refuse() {
        HireYard yard = new HireYard();
        long before = bytesMade();
        for (int i = 0; i < CALLS; i++) {
            yard.machine(0, 0, 0);
            yard.order(0, 0, 0, 1, 1);
            yard.terms(0, -1);
            yard.read(0, 0);
        }
        made("refused calls", before, NOTHING);
    }

    /** Calls that answer make nothing: days, bills, best, rounds. */
    private static void answer() {
        Scene s = Scene.hire();
        feedLongest(s.yard);
        s.yard.terms(0, 0);
        s.yard.machine(0, 0, 0);
        s.yard.hours(240);
        s.yard.order(0, 0, 300, 1, 1);
        long before = bytesMade();
        for (int i = 0; i < CALLS; i++) {
            s.yard.bill(0, 0, 2);
            s.yard.next(0, 60);
            s.yard.days(0, 3);
            s.yard.list(1);
            s.yard.best();
            s.yard.stop(1);
            s.yard.round();
        }
        made("bills, days, best and rounds", before, NOTHING);
    }
}
