/** Each sentence of the document's section 2 that names an edge of BEST, of LOADS, of HIRES and of the LORRY. */
public final class EdgesOfLoadsTest {
    private static final Check CHECK = new Check("edges of loads");

    public static void main(String[] args) {
        lastOrder();
        statesOfOrders();
        bestOfOneToSix();
        eachAnotherMachine();
        orNone();
        mostGetOne();
        fewestMiles();
        fewestSubstitutes();
        firstByTheList();
        lesserMachine();
        noneLast();
        milesOfNone();
        listIsEmptyThen();
        hoursOfLoad();
        thereAtOnce();
        hireBegins();
        hireHasBegun();
        loadBeyondTheLastHour();
        hireEndsNow();
        lorryBears();
        weightIsWithoutLooks();
        oneToFiveStops();
        leastOfAllRows();
        firstByNumbers();
        stopsAreNoneThen();
        townOfOneThatIsSent();
        CHECK.done();
    }

    /** Towns 0, 1, 2 with yards in a row, types 0 and 1, customers 0, 1, 2 in the towns, with all papers. */
    private static Scene yards(int miles) {
        Scene s = Scene.row(3, miles);
        for (int i = 0; i < 3; i++) {
            s.yard.customer(i, 255);
        }
        s.yard.type(10000, 1, 0, 0);
        s.yard.type(10000, 1, 0, 0);
        return s;
    }

    private static void expectMachines(String what, HireYard y, int... due) {
        long[] got = new long[due.length], all = new long[due.length];
        for (int i = 0; i < due.length; i++) {
            got[i] = y.ofOrder(i, 6);
            all[i] = due[i];
        }
        CHECK.row(what, got, all);
    }

    /** "2 ORDERS 0 .. 99, as they came". */
    private static void lastOrder() {
        HireYard y = Scene.plain().yard;
        y.machine(0, 0, 0);
        for (int i = 0; i < 99; i++) {
            y.order(0, 0, 23999, 60, 24);
        }
        CHECK.is("order 99", y.order(0, 0, 0, 1, 1), 99);
        CHECK.is("it is listed", y.list(99), 1);
        CHECK.is("it gets one", y.best(), 1);
        CHECK.is("it is sent", y.send(99), 0);
        CHECK.is("order 100", y.order(0, 0, 0, 1, 1), Scene.FULL);
        CHECK.is("none such", y.list(100), Scene.BAD);
    }

    /** "STATES: 0 WAITS, 1 PROMISED, 2 OUT (from when it is SENT on), 3 DONE, 4 GONE (called off)". */
    private static void statesOfOrders() {
        Scene s = yards(30);
        HireYard y = s.yard;
        y.machine(0, 0, 0);
        y.order(1, 0, 5, 1, 1);
        y.order(1, 0, 5, 1, 1);
        CHECK.is("waits", y.ofOrder(0, 5), 0);
        s.promise(0);
        CHECK.is("promised", y.ofOrder(0, 5), 1);
        y.send(0);
        CHECK.is("out, though on a load", y.ofOrder(0, 5), 2);
        s.pass(5);
        CHECK.is("out", y.ofOrder(0, 5), 2);
        y.fetch(0, 0);
        CHECK.is("done", y.ofOrder(0, 5), 3);
        y.off(1);
        CHECK.is("gone", y.ofOrder(1, 5), 4);
    }

    /** "BEST for some ORDERS that WAIT (1 .. 6 told)". */
    private static void bestOfOneToSix() {
        for (int n = 1; n <= 6; n++) {
            HireYard y = yards(30).yard;
            for (int i = 0; i < 7; i++) {
                y.machine(0, 0, 0);
                y.order(0, 0, 0, 1, 1);
            }
            for (int i = 0; i < n; i++) {
                CHECK.is("order " + i, y.list(i), i + 1);
            }
            CHECK.is("a seventh", n == 6 ? y.list(6) : Scene.FULL, Scene.FULL);
            CHECK.is("best of " + n, y.best(), n);
            CHECK.is("wait still", y.count(12), 7 - n);
        }
    }

    /** "each gets another MACHINE without WHY". */
    private static void eachAnotherMachine() {
        Scene s = yards(30);
        s.yard.machine(0, 0, 0);
        s.yard.order(0, 0, 0, 1, 1);
        s.yard.order(0, 0, 0, 1, 1);
        CHECK.is("one machine for one order", s.promise(0, 1), 1);
        CHECK.is("none promised twice", s.promise(1), 0);
        Scene why = yards(30);
        for (int i = 0; i < 3; i++) {
            why.yard.machine(0, 0, 0);
        }
        why.yard.broken(0, 1);
        why.yard.look(1, 1);
        why.yard.order(0, 0, 0, 1, 1);
        why.promise(0);
        expectMachines("without why", why.yard, 2);
    }

    /** "or none". */
    private static void orNone() {
        Scene s = yards(30);
        s.yard.machine(0, 0, 0);
        s.yard.order(0, 1, 0, 1, 1);
        CHECK.is("of one", s.promise(0), 0);
        expectMachines("none", s.yard, -1);
        CHECK.is("it waits", s.yard.ofOrder(0, 5), 0);
    }

    /** "MOST get one", also by more miles and more substitutes. */
    private static void mostGetOne() {
        Scene s = yards(300);
        HireYard y = s.yard;
        y.instead(1, 0, 1);
        y.machine(0, 0, 0);
        y.machine(1, 2, 0);
        y.order(0, 0, 90, 1, 1);
        y.order(0, 0, 5, 1, 1);
        CHECK.is("both", s.promise(0, 1), 2);
        expectMachines("the near one for the one that is in haste", y, 1, 0);
        CHECK.is("miles", y.miles(), 600);
    }

    /** "of these ways that of the fewest MILES (FAR of each) together", also by more substitutes. */
    private static void fewestMiles() {
        Scene s = yards(10);
        HireYard y = s.yard;
        y.instead(1, 0, 1);
        y.machine(0, 2, 0);
        y.machine(1, 1, 0);
        y.order(0, 0, 90, 1, 1);
        s.promise(0);
        expectMachines("the substitute is nearer", y, 1);
        CHECK.is("miles", y.miles(), 10);
        Scene both = yards(10);
        both.yard.machine(0, 0, 0);
        both.yard.machine(0, 1, 0);
        both.yard.order(1, 0, 90, 1, 1);
        both.yard.order(2, 0, 90, 1, 1);
        both.promise(0, 1);
        expectMachines("as many miles: the lesser machine for the first", both.yard, 0, 1);
        CHECK.is("miles together", both.yard.miles(), 20);
        Scene less = yards(10);
        less.yard.road(0, 2, 19);
        less.yard.machine(0, 0, 0);
        less.yard.machine(0, 1, 0);
        less.yard.order(1, 0, 90, 1, 1);
        less.yard.order(2, 0, 90, 1, 1);
        less.promise(0, 1);
        expectMachines("a mile less together", less.yard, 1, 0);
        CHECK.is("miles together", less.yard.miles(), 19);
    }

    /** "of several that with the fewest SUBSTITUTES". */
    private static void fewestSubstitutes() {
        Scene s = yards(10);
        HireYard y = s.yard;
        y.instead(1, 0, 1);
        y.instead(0, 1, 1);
        y.machine(1, 0, 0);
        y.machine(1, 0, 0);
        y.machine(0, 0, 0);
        y.order(0, 0, 0, 1, 1);
        y.order(0, 1, 0, 1, 1);
        s.promise(0, 1);
        expectMachines("none but its own", y, 2, 0);
    }

    /** "of several the first (by ORDERS as they came to THE LIST". */
    private static void firstByTheList() {
        int[][] lists = {{0, 1, 2}, {2, 0, 1}, {1, 2, 0}};
        for (int[] list : lists) {
            Scene s = yards(10);
            for (int i = 0; i < 3; i++) {
                s.yard.machine(0, 0, 0);
                s.yard.order(0, 0, 0, 1, 1);
            }
            s.promise(list);
            for (int i = 0; i < 3; i++) {
                CHECK.is("order " + list[i] + ", come as " + i, s.yard.ofOrder(list[i], 6), i);
            }
        }
    }

    /** "the lesser MACHINE". */
    private static void lesserMachine() {
        Scene s = yards(10);
        for (int i = 0; i < 5; i++) {
            s.yard.machine(0, 0, 0);
        }
        s.yard.gone(0, 3);
        s.yard.order(0, 0, 0, 1, 1);
        s.promise(0);
        expectMachines("the least that may go", s.yard, 1);
    }

    /** "none last": of two orders and one machine the one that came first gets it. */
    private static void noneLast() {
        for (int first = 0; first < 2; first++) {
            Scene s = yards(10);
            s.yard.machine(0, 0, 0);
            s.yard.order(0, 0, 0, 1, 1);
            s.yard.order(0, 0, 0, 1, 1);
            s.promise(first, 1 - first);
            CHECK.is("the first has it", s.yard.ofOrder(first, 6), 0);
            CHECK.is("the second has none", s.yard.ofOrder(1 - first, 6), -1);
        }
    }

    /** Promise 24: "MILES of the latest best() that was not refused. BAD: before any." */
    private static void milesOfNone() {
        Scene s = yards(10);
        HireYard y = s.yard;
        CHECK.is("before any", y.miles(), Scene.BAD);
        CHECK.is("refused", y.best(), Scene.NOT);
        CHECK.is("before any that was not", y.miles(), Scene.BAD);
        y.order(1, 0, 9, 1, 1);
        s.promise(0);
        CHECK.is("none got one", y.miles(), 0);
        y.machine(0, 0, 0);
        s.promise(0);
        CHECK.is("one", y.miles(), 10);
        y.best();
        CHECK.is("refused since", y.miles(), 10);
        s.promise(0);
        CHECK.is("promised already", y.miles(), 10);
    }

    /** Promise 23: "THE LIST, which is empty then", and "(Those that do not WAIT any more get none.)". */
    private static void listIsEmptyThen() {
        Scene s = yards(10);
        HireYard y = s.yard;
        for (int i = 0; i < 3; i++) {
            y.order(0, 0, 0, 1, 1);
        }
        CHECK.is("none has one", s.promise(0, 1, 2), 0);
        CHECK.is("empty, though all wait", y.best(), Scene.NOT);
        y.machine(0, 0, 0);
        y.list(0);
        y.list(1);
        y.off(0);
        CHECK.is("the one that waits", y.best(), 1);
        expectMachines("none for the one that is gone", y, -1, 0, -1);
        CHECK.is("the first again", y.list(2), 1);
    }

    /** "ON A LOAD for FAR / 30 (up) hours". */
    private static void hoursOfLoad() {
        int[][] milesHours = {{1, 1}, {29, 1}, {30, 1}, {31, 2}, {60, 2}, {61, 3}, {90, 3}, {300, 10}};
        for (int[] m : milesHours) {
            Scene s = yards(m[0]);
            s.yard.machine(0, 0, 0);
            s.yard.order(1, 0, 50, 1, 1);
            s.promise(0);
            s.pass(4);
            CHECK.is("sent over " + m[0], s.yard.send(0), 4 + m[1]);
            CHECK.is("on a load", s.yard.ofMachine(0, 2), 1);
            s.pass(46);
            CHECK.is("fetched over " + m[0], s.yard.fetch(0, 0), 50 + m[1]);
            CHECK.is("on a load back", s.yard.ofMachine(0, 2), 1);
            s.pass(m[1] - 1);
            CHECK.is("still", s.yard.ofMachine(0, 2), 1);
            s.pass(1);
            CHECK.is("there", s.yard.ofMachine(0, 2), 0);
        }
    }

    /** "(0: there at once), then OUT"; FETCHED "likewise, and there then". */
    private static void thereAtOnce() {
        Scene s = yards(10);
        HireYard y = s.yard;
        y.machine(0, 0, 0);
        y.order(0, 0, 0, 1, 1);
        s.promise(0);
        CHECK.is("sent", y.send(0), 0);
        CHECK.row("out", s.ofMachine(0), 0, 0, 2, 0, 0, 0, -1, 0, 0, -1);
        CHECK.is("fetched", y.fetch(0, 0), 0);
        CHECK.row("back", s.ofMachine(0), 0, 0, 0, 0, 0, 0, -1, -1, 0, -1);
    }

    private static int beginOf(int from, int sentAt) {
        Scene s = yards(60);
        s.yard.machine(0, 0, 0);
        s.yard.order(1, 0, from, 1, 1);
        s.promise(0);
        s.pass(sentAt);
        CHECK.is("not known when promised", s.yard.ofOrder(0, 7), -1);
        s.yard.send(0);
        return s.yard.ofOrder(0, 7);
    }

    /** "the HIRE ... begins at the HOUR when it is there, or at that from which it was ordered, whichever is later". */
    private static void hireBegins() {
        CHECK.is("there earlier", beginOf(10, 7), 10);
        CHECK.is("there just then", beginOf(10, 8), 10);
        CHECK.is("there later", beginOf(10, 9), 11);
    }

    /** "(known when it is SENT; it HAS BEGUN when HOUR is that or more)". */
    private static void hireHasBegun() {
        Scene s = yards(60);
        HireYard y = s.yard;
        y.machine(0, 0, 0);
        y.order(1, 0, 10, 1, 1);
        s.terms(0, 0, "100-days");
        CHECK.is("40: waits", y.next(0, 1), Scene.NOT);
        s.promise(0);
        CHECK.is("40: promised", y.next(0, 1), Scene.NOT);
        y.send(0);
        s.pass(9);
        CHECK.is("32: an hour ahead", y.said(0, 0, 1), Scene.NOT);
        CHECK.is("33: an hour ahead", y.days(0, 0), Scene.VOID);
        CHECK.is("38: an hour ahead", y.gives(0, 0, 1), Scene.VOID);
        CHECK.is("39: an hour ahead", y.bill(0, 0, 0), Scene.VOID);
        CHECK.is("40: an hour ahead", y.next(0, 1), Scene.NOT);
        CHECK.is("29: an hour ahead", y.fetch(0, 0), Scene.NOT);
        s.pass(1);
        CHECK.is("32: in that hour", y.said(0, 0, 1), 1);
        CHECK.is("33: in that hour", y.days(0, 0), 0);
        CHECK.is("38: in that hour", y.gives(0, 0, 1), 99);
        CHECK.is("39: in that hour", y.bill(0, 0, 0), 100);
        CHECK.is("40: in that hour", y.next(0, 1), 2);
        CHECK.is("29: in that hour", y.fetch(0, 0), 12);
        CHECK.is("33: done", y.days(0, 0), 0);
    }

    /** HOURS that are told may lie behind the last one. */
    private static void loadBeyondTheLastHour() {
        Scene s = yards(300);
        HireYard y = s.yard;
        y.machine(0, 0, 0);
        y.order(1, 0, 23999, 1, 1);
        s.promise(0);
        s.pass(23990);
        CHECK.is("there behind the last hour", y.send(0), 24000);
        CHECK.is("the hire begins then", y.ofOrder(0, 7), 24000);
        s.pass(9);
        CHECK.is("on a load for ever", y.ofMachine(0, 2), 1);
        CHECK.is("it never begins", y.days(0, 0), Scene.VOID);
    }

    /** "What is OUT, its HIRE begun, is FETCHED: the HIRE ends now". */
    private static void hireEndsNow() {
        Scene s = yards(300);
        HireYard y = s.yard;
        y.machine(0, 0, 0);
        y.order(0, 0, 0, 1, 1);
        s.promise(0);
        y.send(0);
        s.pass(24);
        CHECK.is("there later", y.fetch(0, 1), 34);
        CHECK.is("ended", y.ofOrder(0, 8), 24);
        CHECK.is("one day", y.days(0, 0), 1);
        s.pass(100);
        CHECK.is("one day still", y.days(0, 0), 1);
        CHECK.is("again", y.fetch(0, 1), Scene.NOT);
    }

    /** Machines of these types (by WEIGHT 1000s and looks), all promised at yard 0 and told as stops. */
    private static Scene stops(int... whats) {
        Scene s = Scene.row(3, 10);
        s.yard.customer(0, 255);
        for (int i = 0; i < whats.length; i++) {
            s.yard.type(whats[i], 1, 0, 0);
            s.yard.machine(i, 0, 0);
            s.yard.order(0, i, 0, 1, 1);
            s.promise(i);
            s.yard.stop(i);
        }
        return s;
    }

    /** "A LORRY bears 260"; "WEIGHT of all 260 at most, else BIG". */
    private static void lorryBears() {
        CHECK.is("260", stops(99000, 99000, 62000).yard.round(), 0);
        CHECK.is("261", stops(99000, 99000, 63000).yard.round(), Scene.BIG);
        CHECK.is("259", stops(99000, 99000, 61000).yard.round(), 0);
        CHECK.is("495", stops(99000, 99000, 99000, 99000, 99000).yard.round(), Scene.BIG);
        CHECK.is("two at most are always borne", stops(99000, 99000).yard.round(), 0);
        HireYard y = stops(99000, 99000, 63000).yard;
        y.off(2);
        CHECK.is("one that fell out weighs nothing", y.round(), 0);
    }

    /** "1000 times WEIGHT, and LOOK EVERY". */
    private static void weightIsWithoutLooks() {
        CHECK.is("260", stops(52999, 52999, 52999, 52999, 52999).yard.round(), 0);
        CHECK.is("260", stops(99999, 99999, 62999).yard.round(), 0);
        CHECK.is("261", stops(99001, 99001, 63001).yard.round(), Scene.BIG);
    }

    /** "ROUND for told MACHINES (1 .. 5)". */
    private static void oneToFiveStops() {
        CHECK.is("none", new HireYard().round(), Scene.NOT);
        for (int n = 1; n <= 5; n++) {
            int[] whats = new int[n];
            java.util.Arrays.fill(whats, 1000);
            HireYard y = stops(whats).yard;
            CHECK.is("round of " + n, y.round(), 0);
            CHECK.is("the last stop of " + n, y.stopped(n - 1), n - 1);
            CHECK.is("no more than " + n, y.stopped(n), Scene.BAD);
            CHECK.is("below 0", y.stopped(-1), Scene.BAD);
        }
        HireYard six = stops(1000, 1000, 1000, 1000, 1000, 1000).yard;
        CHECK.is("a sixth", six.stop(5), Scene.FULL);
    }

    /** A scene whose town 0 has the yard; machine i is promised to customer i in town i + 1. */
    private static Scene star(int... milesFromYard) {
        Scene s = new Scene();
        HireYard y = s.yard;
        y.town(1);
        y.type(1000, 1, 0, 0);
        for (int i = 0; i < milesFromYard.length; i++) {
            y.town(0);
            y.road(0, i + 1, milesFromYard[i]);
            y.customer(i + 1, 255);
            y.machine(0, 0, 0);
            y.order(i, 0, 50, 1, 1);
            s.promise(i);
        }
        return s;
    }

    /** "MILES: the least of all rows", from the YARD and back. */
    private static void leastOfAllRows() {
        Scene s = star(10, 10, 10);
        HireYard y = s.yard;
        y.road(1, 3, 1);
        y.road(3, 2, 1);
        for (int machine : new int[] {2, 1, 0}) {
            y.stop(machine);
        }
        CHECK.is("out, on and back", y.round(), 22);
        CHECK.row("by way of the third", new long[] {y.stopped(0), y.stopped(1), y.stopped(2)}, 0, 2, 1);
        y.stop(1);
        CHECK.is("out and back", y.round(), 20);
    }

    /** "of several the first by the MACHINES' numbers". */
    private static void firstByNumbers() {
        Scene s = star(10, 10, 10, 10, 10);
        HireYard y = s.yard;
        for (int machine : new int[] {3, 1, 4, 0, 2}) {
            y.stop(machine);
        }
        CHECK.is("any row", y.round(), 100);
        CHECK.row("by numbers", new long[] {y.stopped(0), y.stopped(1), y.stopped(2), y.stopped(3), y.stopped(4)},
            0, 1, 2, 3, 4);
    }

    /** Promise 25: "(those that are PROMISED no more fall out), which are none then in any case". */
    private static void stopsAreNoneThen() {
        HireYard big = stops(99000, 99000, 99000).yard;
        CHECK.is("big", big.round(), Scene.BIG);
        CHECK.is("none then", big.round(), Scene.NOT);
        CHECK.is("one may be told again", big.stop(2), 1);
        CHECK.is("small", big.round(), 0);
        big.stop(0);
        big.stop(1);
        big.stop(2);
        CHECK.is("big again", big.round(), Scene.BIG);
        CHECK.is("27: the latest that found one", big.stopped(0), 2);
        CHECK.is("27: one stop", big.stopped(1), Scene.BAD);
        HireYard out = stops(1000, 1000).yard;
        out.send(0);
        out.off(1);
        CHECK.is("all fell out", out.round(), Scene.NOT);
        out.order(0, 1, 0, 1, 1);
        out.list(2);
        out.best();
        CHECK.is("none then, though it is promised anew", out.round(), Scene.NOT);
        CHECK.is("27: none was found", out.stopped(0), Scene.BAD);
    }

    /** Promise 26: "is in another TOWN than one of those (as they are now, sent ones too: the TOWN to which they go)". */
    private static void townOfOneThatIsSent() {
        Scene s = yards(30);
        HireYard y = s.yard;
        y.machine(0, 0, 0);
        y.machine(0, 0, 0);
        y.machine(0, 1, 0);
        y.order(1, 0, 9, 1, 1);
        y.order(0, 0, 9, 1, 1);
        y.order(1, 0, 9, 1, 1);
        s.promise(1);
        s.promise(2);
        s.promise(0);
        expectMachines("promised", y, 1, 0, 2);
        CHECK.is("first", y.stop(1), 1);
        CHECK.is("another town", y.stop(2), Scene.NOT);
        y.send(0);
        CHECK.is("of the same yard, but that one goes to town 1", y.stop(0), Scene.NOT);
        CHECK.is("in the town to which it goes", y.stop(2), 2);
        CHECK.is("the sent one falls out", y.round(), 0);
        CHECK.is("the other one", y.stopped(0), 2);
    }
}
