/** Promises 19 to 31: customers, orders, why, the best, rounds, loads. */
public final class OrdersTest {
    private static final Check CHECK = new Check("orders");

    public static void main(String[] args) {
        customer();
        order();
        why();
        whyNoLook();
        list();
        listOfSix();
        best();
        bestTies();
        miles();
        round();
        roundRefused();
        roundOfUnlikeYards();
        stop();
        send();
        fetch();
        off();
        ofOrder();
        CHECK.done();
    }

    private static void customer() {
        HireYard y = Scene.row(2, 1).yard;
        CHECK.is("19: no town", y.customer(2, 0), Scene.BAD);
        CHECK.is("19: papers 256", y.customer(0, 256), Scene.BAD);
        CHECK.is("19: papers -1", y.customer(0, -1), Scene.BAD);
        for (int i = 0; i < 30; i++) {
            CHECK.is("19: customer", y.customer(i % 2, i % 2 == 0 ? 0 : 255), i);
        }
        CHECK.is("19: FULL", y.customer(0, 0), Scene.FULL);
        CHECK.is("19: BAD ahead of FULL", y.customer(2, 0), Scene.BAD);
        CHECK.is("19: how many", y.count(3), 30);
    }

    private static void order() {
        Scene s = Scene.plain();
        HireYard y = s.yard;
        s.pass(10);
        int[][] wrong = {
            {1, 0, 10, 1, 1}, {-1, 0, 10, 1, 1}, {0, 1, 10, 1, 1}, {0, -1, 10, 1, 1}, {0, 0, 9, 1, 1},
            {0, 0, 24000, 1, 1}, {0, 0, 10, 0, 1}, {0, 0, 10, 61, 1}, {0, 0, 10, 1, 0}, {0, 0, 10, 1, 25}};
        for (int[] w : wrong) {
            CHECK.is("20: wrong", y.order(w[0], w[1], w[2], w[3], w[4]), Scene.BAD);
        }
        CHECK.is("20: least", y.order(0, 0, 10, 1, 1), 0);
        CHECK.is("20: most", y.order(0, 0, 23999, 60, 24), 1);
        for (int i = 2; i < 100; i++) {
            CHECK.is("20: order", y.order(0, 0, 10, 1, 1), i);
        }
        CHECK.is("20: FULL", y.order(0, 0, 10, 1, 1), Scene.FULL);
        CHECK.is("20: BAD ahead of FULL", y.order(0, 0, 9, 1, 1), Scene.BAD);
        CHECK.is("20: how many", y.count(4), 100);
    }

    private static void why() {
        Scene s = Scene.row(3, 31);
        HireYard y = s.yard;
        y.town(1);
        y.type(10010, 100, 1, 0);
        y.type(10000, 100, 7, 0);
        y.customer(1, 2);
        y.customer(3, 255);
        y.customer(1, 128);
        y.machine(0, 0, 0);
        y.machine(1, 0, 0);
        y.order(0, 0, 2, 2, 5);
        y.order(0, 0, 1, 2, 5);
        y.order(0, 0, 2, 11, 1);
        y.order(1, 0, 99, 1, 1);
        y.order(2, 0, 1, 11, 1);
        CHECK.is("21: just in time, just no look", y.why(0, 0), 0);
        CHECK.is("21: too late", y.why(0, 1), 5);
        CHECK.is("21: a look lapses", y.why(0, 2), 4);
        CHECK.is("21: no way", y.why(0, 3), 5);
        CHECK.is("21: type ahead of all but 1", y.why(1, 4), 2);
        y.instead(1, 0, 1);
        CHECK.is("21: no paper for the machine's own type", y.why(1, 0), 3);
        CHECK.is("21: paper 7, no look asked", y.why(1, 4), 5);
        CHECK.is("21: paper ahead of look and way", y.why(0, 4), 3);
        s.promise(0);
        CHECK.is("21: promised to it", y.why(0, 0), 0);
        y.order(0, 0, 2, 1, 1);
        CHECK.is("21: promised to another", y.why(0, 5), 6);
        CHECK.is("21: late ahead of promised", y.why(0, 1), 5);
        y.broken(0, 1);
        CHECK.is("21: not ready", y.why(0, 0), 1);
        y.broken(0, 0);
        y.send(0);
        CHECK.is("21: on a load", y.why(0, 0), 1);
        CHECK.is("21: no machine", y.why(2, 0), Scene.BAD);
        CHECK.is("21: no order", y.why(0, 6), Scene.BAD);
        CHECK.is("21: below 0", y.why(-1, 0), Scene.BAD);
        CHECK.is("21: below 0", y.why(0, -1), Scene.BAD);
        s.pass(2);
        CHECK.is("21: out", y.why(0, 0), 1);
        y.read(0, 10);
        y.fetch(0, 1);
        CHECK.is("21: back, a look is due", y.why(0, 5), 4);
    }

    private static void whyNoLook() {
        HireYard y = Scene.plain().yard;
        y.machine(0, 0, 99999);
        y.order(0, 0, 0, 60, 24);
        CHECK.is("21: never a look", y.why(0, 0), 0);
        y.off(0);
        CHECK.is("21: of one that is gone", y.why(0, 0), 0);
        y.type(10001, 100, 0, 0);
        y.type(10030, 100, 0, 0);
        y.machine(1, 0, 0);
        y.machine(1, 0, 1);
        y.machine(2, 0, 0);
        y.order(0, 1, 0, 1, 1);
        y.order(0, 2, 0, 6, 6);
        y.order(0, 2, 0, 5, 6);
        CHECK.is("21: a look every hour of work", y.why(1, 1), 0);
        CHECK.is("21: it is due", y.why(2, 1), 4);
        CHECK.is("21: days times hours", y.why(3, 2), 4);
        CHECK.is("21: days times hours", y.why(3, 3), 0);
    }

    private static void list() {
        Scene s = Scene.plain();
        HireYard y = s.yard;
        y.machine(0, 0, 0);
        y.order(0, 0, 0, 1, 1);
        y.order(0, 0, 0, 1, 1);
        CHECK.is("22: no order", y.list(2), Scene.BAD);
        CHECK.is("22: below 0", y.list(-1), Scene.BAD);
        CHECK.is("22: first", y.list(1), 1);
        CHECK.is("22: is on it", y.list(1), Scene.NOT);
        CHECK.is("22: second", y.list(0), 2);
        y.off(1);
        CHECK.is("22: gone", y.list(1), Scene.NOT);
        CHECK.is("23: those that wait no more get none", y.best(), 1);
        CHECK.is("23: the other one", y.ofOrder(0, 6), 0);
        CHECK.is("22: promised", y.list(0), Scene.NOT);
        y.order(0, 0, 0, 1, 1);
        y.list(2);
        y.off(2);
        CHECK.is("23: none waits", y.best(), 0);
        CHECK.is("24: no miles", y.miles(), 0);
    }

    private static void listOfSix() {
        HireYard y = Scene.plain().yard;
        for (int i = 0; i < 8; i++) {
            y.order(0, 0, 0, 1, 1);
        }
        for (int i = 0; i < 6; i++) {
            CHECK.is("22: order " + i, y.list(i), i + 1);
        }
        y.off(5);
        CHECK.is("22: FULL", y.list(6), Scene.FULL);
        CHECK.is("22: NOT ahead of FULL", y.list(0), Scene.NOT);
        CHECK.is("23: no machines", y.best(), 0);
        CHECK.is("22: empty again", y.list(6), 1);
    }

    private static void best() {
        Scene s = Scene.row(4, 10);
        HireYard y = s.yard;
        CHECK.is("23: empty", y.best(), Scene.NOT);
        y.type(10000, 1, 0, 0);
        y.type(10000, 1, 0, 0);
        y.instead(1, 0, 1);
        y.customer(1, 1);
        y.customer(2, 1);
        y.machine(0, 0, 0);
        y.machine(1, 0, 0);
        y.machine(0, 3, 0);
        y.order(0, 1, 10, 1, 1);
        y.order(1, 0, 10, 1, 1);
        CHECK.is("23: both", s.promise(1, 0), 2);
        CHECK.is("23: the only one of its type", y.ofOrder(0, 6), 1);
        CHECK.is("23: the nearest", y.ofOrder(1, 6), 2);
        CHECK.is("24: miles", y.miles(), 20);
        y.off(0);
        y.off(1);
        y.order(1, 0, 10, 1, 1);
        y.order(1, 0, 10, 1, 1);
        y.order(1, 1, 10, 1, 1);
        CHECK.is("23: most get one, though it is farther", s.promise(2, 3, 4), 3);
        CHECK.row("23: a substitute would leave one out",
            new long[] {y.ofOrder(2, 6), y.ofOrder(3, 6), y.ofOrder(4, 6)}, 0, 2, 1);
        CHECK.is("24: miles", y.miles(), 50);
        CHECK.is("23: all promised", y.count(12), 0);
        y.order(1, 0, 10, 1, 1);
        CHECK.is("23: none is left", s.promise(5), 0);
        CHECK.is("23: it waits", y.ofOrder(5, 5), 0);
    }

    private static void bestTies() {
        Scene s = Scene.row(2, 10);
        HireYard y = s.yard;
        y.type(10000, 1, 0, 0);
        y.type(10000, 1, 0, 0);
        y.instead(1, 0, 1);
        y.customer(1, 1);
        y.machine(1, 0, 0);
        y.machine(0, 0, 0);
        y.machine(0, 0, 0);
        for (int i = 0; i < 4; i++) {
            y.order(0, 0, 10, 1, 1);
        }
        CHECK.is("23: one", s.promise(3), 1);
        CHECK.is("23: no substitute, the lesser machine", y.ofOrder(3, 6), 1);
        CHECK.is("23: two of three", s.promise(2, 0, 1), 2);
        CHECK.row("23: by the list, none last",
            new long[] {y.ofOrder(2, 6), y.ofOrder(0, 6), y.ofOrder(1, 6)}, 0, 2, -1);
        CHECK.is("24: miles", y.miles(), 20);
    }

    private static void miles() {
        Scene s = Scene.row(2, 17);
        HireYard y = s.yard;
        CHECK.is("24: before any", y.miles(), Scene.BAD);
        y.best();
        CHECK.is("24: before any that was not refused", y.miles(), Scene.BAD);
        y.type(10000, 1, 0, 0);
        y.customer(1, 1);
        y.machine(0, 0, 0);
        y.order(0, 0, 10, 1, 1);
        s.promise(0);
        CHECK.is("24: miles", y.miles(), 17);
        y.best();
        CHECK.is("24: a refused one does not count", y.miles(), 17);
    }

    /** Towns 0 (yard), 1 and 2 each 10 miles from 0 and 15 from each other, 3 five miles behind 2. */
    private static Scene triangle() {
        Scene s = new Scene();
        for (int i = 0; i < 4; i++) {
            s.yard.town(1);
        }
        s.yard.road(0, 1, 10);
        s.yard.road(0, 2, 10);
        s.yard.road(1, 2, 15);
        s.yard.road(2, 3, 5);
        return s;
    }

    private static void round() {
        Scene s = triangle();
        HireYard y = s.yard;
        y.type(52000, 1, 0, 0);
        for (int i = 0; i < 4; i++) {
            y.customer(i, 1);
        }
        for (int i = 0; i < 6; i++) {
            y.machine(0, 0, 0);
        }
        int[] customers = {3, 1, 2, 2, 1};
        for (int customer : customers) {
            y.order(customer, 0, 10, 1, 1);
            s.promise(y.count(4) - 1);
        }
        CHECK.is("25: none told", y.round(), Scene.NOT);
        CHECK.is("27: before any", y.stopped(0), Scene.BAD);
        for (int machine : new int[] {4, 3, 2, 1, 0}) {
            y.stop(machine);
        }
        CHECK.is("25: a weight of 260 is borne", y.round(), 45);
        CHECK.row("27: the first by numbers", new long[] {
            y.stopped(0), y.stopped(1), y.stopped(2), y.stopped(3), y.stopped(4)}, 0, 2, 3, 1, 4);
        CHECK.is("27: beyond", y.stopped(5), Scene.BAD);
        CHECK.is("27: below 0", y.stopped(-1), Scene.BAD);
        CHECK.is("25: none then", y.round(), Scene.NOT);
        y.stop(1);
        y.stop(3);
        y.send(3);
        CHECK.is("25: one that is sent falls out", y.round(), 20);
        CHECK.is("27: one stop", y.stopped(0), 1);
        CHECK.is("27: no more", y.stopped(1), Scene.BAD);
        y.stop(2);
        y.off(2);
        CHECK.is("25: all fell out", y.round(), Scene.NOT);
        CHECK.is("27: the latest that found one", y.stopped(0), 1);
        y.stop(0);
        y.stop(4);
        y.off(0);
        CHECK.is("25: the first fell out", y.round(), 20);
        CHECK.is("27: the other one", y.stopped(0), 4);
    }

    private static void roundRefused() {
        Scene s = Scene.plain();
        HireYard y = s.yard;
        y.type(53000, 1, 0, 0);
        y.type(52000, 1, 0, 0);
        y.type(51000, 1, 0, 0);
        for (int i = 0; i < 6; i++) {
            y.machine(i == 5 ? 3 : i == 0 ? 1 : 2, 0, 0);
            y.order(0, i == 5 ? 3 : i == 0 ? 1 : 2, 0, 1, 1);
        }
        s.promise(0, 1, 2, 3, 4, 5);
        for (int i = 0; i < 5; i++) {
            y.stop(i);
        }
        CHECK.is("25: BIG", y.round(), Scene.BIG);
        CHECK.is("25: none then", y.round(), Scene.NOT);
        CHECK.is("27: none found", y.stopped(0), Scene.BAD);
        for (int i = 0; i < 4; i++) {
            y.stop(i);
        }
        y.stop(5);
        CHECK.is("25: one less is borne", y.round(), 0);
    }

    /** A stop that was told at yard 0 goes out, comes back to another yard and is promised anew. */
    private static void roundOfUnlikeYards() {
        Scene s = triangle();
        HireYard y = s.yard;
        y.type(10000, 1, 0, 0);
        y.customer(2, 1);
        y.machine(0, 0, 0);
        y.machine(0, 0, 0);
        y.order(0, 0, 5, 1, 1);
        y.order(0, 0, 5, 1, 1);
        s.promise(0, 1);
        y.stop(1);
        y.stop(0);
        y.send(1);
        s.pass(5);
        y.fetch(1, 3);
        s.pass(1);
        y.order(0, 0, 10, 1, 1);
        s.promise(2);
        CHECK.is("25: promised from town 3", y.ofOrder(2, 6), 1);
        CHECK.is("26: is one still", y.stop(1), Scene.NOT);
        CHECK.is("25: from the yard of the one told first", y.round(), 10);
        CHECK.row("27: by numbers", new long[] {y.stopped(0), y.stopped(1)}, 0, 1);
        y.stop(0);
        y.off(2);
        CHECK.is("25: alone from its own yard", y.round(), 20);
    }

    private static void stop() {
        Scene s = Scene.row(2, 10);
        HireYard y = s.yard;
        y.type(1000, 1, 0, 0);
        y.customer(0, 1);
        y.customer(1, 1);
        for (int i = 0; i < 6; i++) {
            y.machine(0, 0, 0);
            y.order(0, 0, 10, 1, 1);
        }
        y.machine(0, 1, 0);
        y.machine(0, 1, 0);
        CHECK.is("26: not promised", y.stop(0), Scene.NOT);
        s.promise(0, 1, 2, 3, 4, 5);
        y.order(1, 0, 10, 1, 1);
        y.order(1, 0, 10, 1, 1);
        s.promise(6, 7);
        CHECK.is("26: no machine", y.stop(8), Scene.BAD);
        CHECK.is("26: below 0", y.stop(-1), Scene.BAD);
        for (int i = 0; i < 5; i++) {
            CHECK.is("26: stop", y.stop(i), i + 1);
        }
        CHECK.is("26: is one", y.stop(4), Scene.NOT);
        CHECK.is("26: in another town", y.stop(6), Scene.NOT);
        CHECK.is("26: FULL", y.stop(5), Scene.FULL);
        y.round();
        CHECK.is("26: another town now", y.stop(6), 1);
        CHECK.is("26: in another town", y.stop(5), Scene.NOT);
        y.round();
        y.off(5);
        y.order(1, 0, 10, 1, 1);
        y.gone(6, 4);
        y.off(6);
        y.gone(7, 4);
        y.off(7);
        s.promise(8);
        y.stop(5);
        y.send(8);
        CHECK.is("26: one that was sent is where it goes", y.stop(0), Scene.NOT);
        CHECK.is("26: on a load", y.stop(5), Scene.NOT);
    }

    private static void send() {
        Scene s = Scene.row(3, 30);
        HireYard y = s.yard;
        y.type(10000, 1, 0, 0);
        y.customer(0, 1);
        y.customer(2, 1);
        y.machine(0, 0, 0);
        y.machine(0, 0, 0);
        y.order(0, 0, 0, 1, 1);
        y.order(1, 0, 4, 1, 1);
        CHECK.is("28: no order", y.send(2), Scene.BAD);
        CHECK.is("28: waits", y.send(0), Scene.NOT);
        s.promise(0, 1);
        CHECK.is("28: there at once", y.send(0), 0);
        CHECK.is("28: out", y.ofMachine(0, 2), 2);
        CHECK.is("28: begins at once", y.ofOrder(0, 7), 0);
        CHECK.is("28: is out", y.send(0), Scene.NOT);
        s.pass(3);
        y.broken(1, 1);
        CHECK.is("28: not ready", y.send(1), Scene.NOT);
        y.broken(1, 0);
        CHECK.is("28: later than ordered", y.send(1), 5);
        CHECK.is("28: begins when there", y.ofOrder(1, 7), 5);
        CHECK.is("28: known, not begun", y.days(1, 0), Scene.VOID);
        s.pass(1);
        CHECK.is("28: on the way", y.ofMachine(1, 2), 1);
        s.pass(1);
        CHECK.is("28: there", y.ofMachine(1, 2), 2);
        CHECK.is("28: begun", y.days(1, 0), 0);
    }

    private static void fetch() {
        Scene s = Scene.row(2, 31);
        HireYard y = s.yard;
        y.town(0);
        y.town(1);
        y.type(10000, 1, 0, 0);
        y.customer(1, 1);
        y.machine(0, 0, 0);
        y.order(0, 0, 4, 1, 1);
        CHECK.is("29: no order", y.fetch(1, 0), Scene.BAD);
        CHECK.is("29: no yard", y.fetch(0, 2), Scene.BAD);
        CHECK.is("29: no town", y.fetch(0, 4), Scene.BAD);
        CHECK.is("29: waits", y.fetch(0, 0), Scene.NOT);
        s.promise(0);
        CHECK.is("29: promised", y.fetch(0, 0), Scene.NOT);
        y.send(0);
        s.pass(3);
        CHECK.is("29: there, not begun", y.fetch(0, 0), Scene.NOT);
        s.pass(1);
        CHECK.is("29: no way", y.fetch(0, 3), Scene.NOT);
        y.broken(0, 1);
        CHECK.is("29: a broken one too", y.fetch(0, 0), 6);
        CHECK.row("29: done", s.ofOrder(0), 0, 0, 4, 1, 1, 3, 0, 4, 4, 0);
        CHECK.row("29: on a load", s.ofMachine(0), 0, 0, 1, 0, 2, 0, 6, -1, 0, -1);
        CHECK.is("29: again", y.fetch(0, 0), Scene.NOT);
        s.pass(2);
        CHECK.is("29: there", y.ofMachine(0, 2), 0);
        CHECK.is("29: still broken", y.ofMachine(0, 4), 2);
    }

    private static void off() {
        Scene s = Scene.plain();
        HireYard y = s.yard;
        y.machine(0, 0, 0);
        y.order(0, 0, 0, 1, 1);
        y.order(0, 0, 0, 1, 1);
        y.order(0, 0, 0, 1, 1);
        CHECK.is("30: no order", y.off(3), Scene.BAD);
        CHECK.is("30: waits", y.off(0), 1);
        CHECK.is("30: gone", y.off(0), Scene.NOT);
        s.promise(1);
        CHECK.is("30: promised", y.off(1), 1);
        CHECK.row("30: gone", s.ofOrder(1), 0, 0, 0, 1, 1, 4, -1, -1, -1, 0);
        CHECK.is("30: the machine is free", y.ofMachine(0, 7), -1);
        s.promise(2);
        y.send(2);
        CHECK.is("30: out", y.off(2), Scene.NOT);
        y.fetch(2, 0);
        CHECK.is("30: done", y.off(2), Scene.NOT);
    }

    private static void ofOrder() {
        Scene s = Scene.plain();
        HireYard y = s.yard;
        y.customer(0, 255);
        y.type(1000, 1, 0, 0);
        y.machine(0, 0, 0);
        y.machine(1, 0, 0);
        s.pass(3);
        y.order(1, 1, 7, 50, 20);
        CHECK.row("31: waits", s.ofOrder(0), 1, 1, 7, 50, 20, 0, -1, -1, -1, 3);
        s.promise(0);
        CHECK.row("31: promised", s.ofOrder(0), 1, 1, 7, 50, 20, 1, 1, -1, -1, 3);
        y.send(0);
        CHECK.row("31: out", s.ofOrder(0), 1, 1, 7, 50, 20, 2, 1, 7, -1, 3);
        s.pass(5);
        y.fetch(0, 0);
        CHECK.row("31: done", s.ofOrder(0), 1, 1, 7, 50, 20, 3, 1, 7, 8, 3);
        CHECK.is("31: what 10", y.ofOrder(0, 10), Scene.VOID);
        CHECK.is("31: what -1", y.ofOrder(0, -1), Scene.VOID);
        CHECK.is("31: no order", y.ofOrder(1, 0), Scene.VOID);
    }
}
