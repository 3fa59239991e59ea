/** Each sentence of the document's sections 1 and 2 that names an edge: towns, machines, orders, the best, loads. */
public final class EdgesOfYardTest {
    private static final Check CHECK = new Check("edges of the yard");

    public static void main(String[] args) {
        hourAtFirst();
        lastHour();
        hoursADay();
        lastTown();
        milesOfRoads();
        leastToldCounts();
        farIsTheLeastSum();
        lastCustomer();
        firstAndLastPaper();
        lastType();
        lastMachine();
        onLoadTillAnHour();
        inLookTillAnHour();
        sinceLookWithoutAny();
        sinceLookFromItsBeginning();
        lookIsDue();
        lookLapses();
        lookNeverLapses();
        lookEveryHour();
        firstOfWhy();
        whyItCantBeThere();
        notReadyOrNotAtYard();
        CHECK.done();
    }

    /** "1 HOUR is a count ... 0 at first". */
    private static void hourAtFirst() {
        HireYard y = new HireYard();
        CHECK.is("hour at first", y.count(5), 0);
        CHECK.is("then", y.hours(1), 1);
    }

    /** "at most 23999"; promise 5: "BAD (also beyond 23999)". */
    private static void lastHour() {
        Scene s = Scene.plain();
        CHECK.is("240 at most at once", s.pass(23999 - 240), 23759);
        CHECK.is("the last one", s.yard.hours(240), 23999);
        CHECK.is("none behind", s.yard.hours(1), Scene.BAD);
        CHECK.is("nor far behind", s.yard.hours(240), Scene.BAD);
        CHECK.is("it stays", s.yard.count(5), 23999);
        CHECK.is("an order from it", s.yard.order(0, 0, 23999, 1, 1), 0);
        CHECK.is("one hour more is beyond", lateScene().yard.hours(2), Scene.BAD);
        CHECK.is("to the last one", lateScene().yard.hours(1), 23999);
    }

    private static Scene lateScene() {
        Scene s = Scene.plain();
        s.pass(23998);
        return s;
    }

    /** "24 a DAY": what is made in the last HOUR of DAY 0 is known then, what is made in the next one is not. */
    private static void hoursADay() {
        Scene s = Scene.hire();
        s.pass(23);
        s.terms(0, 0, "23");
        CHECK.is("hour 23 is of day 0", s.yard.bill(0, 0, 0), 23);
        s.pass(1);
        s.terms(0, 0, "2");
        CHECK.is("hour 24 is not", s.yard.bill(0, 0, 0), 23);
        CHECK.is("it is of day 1", s.yard.bill(0, 1, 0), 2);
    }

    /** "TOWNS 0 .. 11". */
    private static void lastTown() {
        HireYard y = Scene.row(12, 300).yard;
        y.type(1000, 1, 0, 0);
        CHECK.is("far to the last", y.far(0, 11), 3300);
        CHECK.is("a machine there", y.machine(0, 11, 0), 0);
        CHECK.is("a customer there", y.customer(11, 1), 0);
        CHECK.is("no thirteenth", y.town(0), Scene.FULL);
        CHECK.is("none such", y.far(0, 12), Scene.BAD);
    }

    /** "ROADS: miles told between two (1 .. 300". */
    private static void milesOfRoads() {
        HireYard y = new HireYard();
        y.town(0);
        y.town(0);
        CHECK.is("301 is none", y.road(0, 1, 301), Scene.BAD);
        CHECK.is("0 is none", y.road(0, 1, 0), Scene.BAD);
        CHECK.is("there is no way by these", y.far(0, 1), Scene.NOT);
        CHECK.is("300 is one", y.road(0, 1, 300), 300);
        CHECK.is("1 is one", y.road(0, 1, 1), 1);
        CHECK.is("the way by it", y.far(0, 1), 1);
    }

    /** "the least told counts"; promise 3: "the miles that count between these two then", whatever FAR is. */
    private static void leastToldCounts() {
        HireYard y = new HireYard();
        for (int i = 0; i < 3; i++) {
            y.town(0);
        }
        CHECK.is("first", y.road(0, 1, 50), 50);
        CHECK.is("one more", y.road(0, 1, 51), 50);
        CHECK.is("the same", y.road(1, 0, 50), 50);
        CHECK.is("one less", y.road(1, 0, 49), 49);
        y.road(0, 2, 1);
        y.road(1, 2, 1);
        CHECK.is("far is less", y.far(0, 1), 2);
        CHECK.is("the road's own miles", y.road(0, 1, 300), 49);
    }

    /** "FAR: the least sum; none if there is none". */
    private static void farIsTheLeastSum() {
        HireYard y = Scene.row(12, 300).yard;
        HireYard apart = new HireYard();
        apart.town(1);
        apart.town(1);
        CHECK.is("of a town and itself", apart.far(1, 1), 0);
        CHECK.is("none", apart.far(0, 1), Scene.NOT);
        CHECK.is("over eleven roads", y.far(11, 0), 3300);
        y.road(0, 11, 299);
        CHECK.is("by one", y.far(0, 11), 299);
        CHECK.is("round it", y.far(1, 11), 599);
        CHECK.is("as far either way", y.far(0, 6), 1799);
        y.road(5, 6, 1);
        CHECK.is("both ways are less then", y.far(0, 6), 1501);
    }

    /** "CUSTOMERS 0 .. 29: a TOWN". */
    private static void lastCustomer() {
        Scene s = Scene.row(2, 30);
        HireYard y = s.yard;
        y.type(1000, 1, 0, 0);
        for (int i = 0; i < 29; i++) {
            y.customer(0, 255);
        }
        CHECK.is("customer 29", y.customer(1, 255), 29);
        y.machine(0, 1, 0);
        CHECK.is("its order", y.order(29, 0, 0, 1, 1), 0);
        CHECK.is("its town", y.why(0, 0), 0);
        CHECK.is("customer 30", y.order(30, 0, 0, 1, 1), Scene.BAD);
    }

    /** "PAPERS (bits 0 .. 7: what drivers may drive)". */
    private static void firstAndLastPaper() {
        HireYard y = Scene.row(1, 1).yard;
        for (int paper = 0; paper < 8; paper++) {
            y.type(1000, 1, paper, 0);
            y.machine(paper, 0, 0);
            y.customer(0, 1 << paper);
            y.customer(0, 255 - (1 << paper));
            y.order(2 * paper, paper, 0, 1, 1);
            y.order(2 * paper + 1, paper, 0, 1, 1);
            CHECK.is("paper " + paper, y.why(paper, 2 * paper), 0);
            CHECK.is("all but paper " + paper, y.why(paper, 2 * paper + 1), 3);
        }
    }

    /** "TYPES 0 .. 14". */
    private static void lastType() {
        HireYard y = Scene.plain().yard;
        for (int i = 1; i < 15; i++) {
            CHECK.is("type", y.type(99999, 9999, 997, 99999), i);
        }
        CHECK.is("may go", y.instead(14, 0, 1), 0);
        CHECK.is("for the last one", y.instead(0, 14, 1), 0);
        CHECK.is("a machine of it", y.machine(14, 0, 0), 0);
        CHECK.is("an order of it", y.order(0, 14, 0, 1, 1), 0);
        CHECK.is("type 15", y.type(1000, 1, 0, 0), Scene.FULL);
        CHECK.is("none such", y.order(0, 15, 0, 1, 1), Scene.BAD);
    }

    /** "MACHINES 0 .. 89". */
    private static void lastMachine() {
        Scene s = Scene.plain();
        HireYard y = s.yard;
        y.type(10000, 100, 0, 5000);
        for (int i = 0; i < 89; i++) {
            y.machine(0, 0, 0);
        }
        CHECK.is("machine 89", y.machine(1, 0, 99999), 89);
        y.order(0, 1, 0, 1, 1);
        y.order(0, 1, 0, 1, 1);
        CHECK.is("one of two orders", s.promise(1, 0), 1);
        CHECK.is("the last machine ahead of none", y.ofOrder(1, 6), 89);
        CHECK.is("the other has none", y.ofOrder(0, 6), -1);
        CHECK.is("machine 90", y.machine(0, 0, 0), Scene.FULL);
        CHECK.is("none such", y.ofMachine(90, 0), Scene.VOID);
    }

    /** "WHERE: ... 1 ON A LOAD (to a TOWN, till an HOUR)". */
    private static void onLoadTillAnHour() {
        Scene s = Scene.row(2, 61);
        HireYard y = s.yard;
        y.type(1000, 1, 0, 0);
        y.customer(1, 1);
        y.machine(0, 0, 0);
        y.order(0, 0, 3, 1, 1);
        s.promise(0);
        y.send(0);
        s.pass(2);
        CHECK.row("an hour ahead", s.ofMachine(0), 0, 0, 1, 1, 0, 0, 3, 0, 0, -1);
        s.pass(1);
        CHECK.row("in that hour", s.ofMachine(0), 0, 0, 2, 1, 0, 0, -1, 0, 0, -1);
        y.fetch(0, 0);
        y.gone(0, 3);
        CHECK.is("on a load it isn't sold", y.ofMachine(0, 4), 0);
        CHECK.is("nor is it idle", y.idle(0, 0, 0), 0);
        CHECK.is("nor looked at", y.look(0, 1), Scene.NOT);
        s.pass(240);
        CHECK.row("long after it", s.ofMachine(0), 0, 0, 0, 0, 0, 0, -1, -1, 0, -1);
    }

    /** "STATES: ... 1 IN LOOK (till an HOUR; then READY)". */
    private static void inLookTillAnHour() {
        for (int n : new int[] {1, 2, 99}) {
            Scene s = Scene.plain();
            HireYard y = s.yard;
            y.machine(0, 0, 0);
            y.look(0, n);
            CHECK.is("till when, of " + n, y.ofMachine(0, 6), n);
            s.pass(n - 1);
            CHECK.is("an hour ahead, of " + n, y.ofMachine(0, 4), 1);
            s.pass(1);
            CHECK.is("in that hour, of " + n, y.ofMachine(0, 4), 0);
            CHECK.is("neither, of " + n, y.ofMachine(0, 6), -1);
            CHECK.is("another one, of " + n, y.look(0, 1), 1);
        }
    }

    private static Scene lookScene(int every, int meter) {
        Scene s = Scene.plain();
        s.yard.type(10000 + every, 1, 0, 0);
        s.yard.machine(1, 0, meter);
        return s;
    }

    /** "SINCE LOOK: ... (without any LOOK: less 0)". */
    private static void sinceLookWithoutAny() {
        HireYard y = lookScene(100, 99999).yard;
        CHECK.is("all that it has", y.ofMachine(0, 5), 99999);
        CHECK.is("it is due", y.ofMachine(0, 9), 0);
        CHECK.is("of 0", lookScene(100, 0).yard.ofMachine(0, 5), 0);
    }

    /** "METER less what METER was at the beginning of the last LOOK". */
    private static void sinceLookFromItsBeginning() {
        Scene s = lookScene(100, 40);
        s.yard.look(0, 5);
        CHECK.is("at its beginning", s.yard.ofMachine(0, 5), 0);
        s.pass(3);
        s.yard.read(0, 47);
        CHECK.is("while it goes on", s.yard.ofMachine(0, 5), 7);
        s.pass(2);
        CHECK.is("when it is done", s.yard.ofMachine(0, 5), 7);
        s.yard.look(0, 1);
        CHECK.is("at the beginning of the last one", s.yard.ofMachine(0, 5), 0);
        s.yard.read(0, 48);
        CHECK.is("behind that", s.yard.ofMachine(0, 5), 1);
    }

    /** "A LOOK is DUE if SINCE LOOK is LOOK EVERY or more"; promise 12: "-1: never; 0: it is". */
    private static void lookIsDue() {
        CHECK.is("one less", lookScene(100, 99).yard.ofMachine(0, 9), 1);
        CHECK.is("as much", lookScene(100, 100).yard.ofMachine(0, 9), 0);
        CHECK.is("one more", lookScene(100, 101).yard.ofMachine(0, 9), 0);
        CHECK.is("never", lookScene(0, 101).yard.ofMachine(0, 9), -1);
        CHECK.is("every 999", lookScene(999, 0).yard.ofMachine(0, 9), 999);
        HireYard y = lookScene(100, 100).yard;
        y.order(0, 1, 0, 1, 1);
        CHECK.is("why", y.why(0, 0), 4);
    }

    private static int whyByWork(int every, int meter, int days, int work) {
        HireYard y = lookScene(every, meter).yard;
        y.order(0, 1, 0, days, work);
        return y.why(0, 0);
    }

    /** "It LAPSES by h hours of work, if SINCE LOOK and h are above LOOK EVERY". */
    private static void lookLapses() {
        CHECK.is("one less", whyByWork(100, 51, 6, 8), 0);
        CHECK.is("as much", whyByWork(100, 52, 6, 8), 0);
        CHECK.is("one more", whyByWork(100, 53, 6, 8), 4);
        CHECK.is("60 days of 16 hours", whyByWork(999, 39, 60, 16), 0);
        CHECK.is("and one more", whyByWork(999, 40, 60, 16), 4);
        CHECK.is("60 days of 24 hours", whyByWork(999, 0, 60, 24), 4);
    }

    /** "(0: never)". */
    private static void lookNeverLapses() {
        CHECK.is("never", whyByWork(0, 99999, 60, 24), 0);
    }

    /** LOOK EVERY 1, the least. */
    private static void lookEveryHour() {
        CHECK.is("one hour", whyByWork(1, 0, 1, 1), 0);
        CHECK.is("two hours", whyByWork(1, 0, 1, 2), 4);
        CHECK.is("two days", whyByWork(1, 0, 2, 1), 4);
        CHECK.is("due", whyByWork(1, 1, 1, 1), 4);
    }

    /** "WHY a MACHINE may not go for one, the first of": all six at once, then one less each time. */
    private static void firstOfWhy() {
        Scene s = new Scene();
        HireYard y = s.yard;
        y.town(1);
        y.town(0);
        y.type(10010, 1, 3, 0);
        y.type(10000, 1, 0, 0);
        y.customer(0, 8);
        y.customer(1, 247);
        y.customer(1, 8);
        y.machine(0, 0, 0);
        y.order(0, 0, 100, 1, 10);
        s.promise(0);
        y.read(0, 1);
        y.broken(0, 1);
        y.order(1, 1, 1, 1, 10);
        y.order(2, 1, 1, 1, 10);
        y.order(2, 1, 1, 1, 9);
        CHECK.is("not ready", y.why(0, 1), 1);
        y.broken(0, 0);
        CHECK.is("no substitute", y.why(0, 1), 2);
        y.instead(0, 1, 1);
        CHECK.is("no paper", y.why(0, 1), 3);
        CHECK.is("a look lapses", y.why(0, 2), 4);
        CHECK.is("no way", y.why(0, 3), 5);
        y.road(0, 1, 31);
        CHECK.is("too far", y.why(0, 3), 5);
        y.road(0, 1, 30);
        CHECK.is("promised", y.why(0, 3), 6);
        y.off(0);
        CHECK.is("it may", y.why(0, 3), 0);
    }

    /** "5 it can't be there: HOUR now and FAR / 30 (up) hours is above that from which it is ordered". */
    private static void whyItCantBeThere() {
        int[][] milesHoursLate = {{1, 1}, {29, 1}, {30, 1}, {31, 2}, {60, 2}, {61, 3}, {299, 10}, {300, 10}};
        for (int[] m : milesHoursLate) {
            Scene s = Scene.row(2, m[0]);
            s.yard.type(1000, 1, 0, 0);
            s.yard.customer(1, 1);
            s.yard.machine(0, 0, 0);
            s.pass(7);
            s.yard.order(0, 0, 7 + m[1], 1, 1);
            s.yard.order(0, 0, 6 + m[1], 1, 1);
            CHECK.is("just there over " + m[0], s.yard.why(0, 0), 0);
            CHECK.is("an hour too late over " + m[0], s.yard.why(0, 1), 5);
            s.pass(1);
            CHECK.is("an hour later over " + m[0], s.yard.why(0, 0), 5);
        }
        HireYard here = Scene.plain().yard;
        here.machine(0, 0, 0);
        here.order(0, 0, 0, 1, 1);
        CHECK.is("there already", here.why(0, 0), 0);
        here.hours(1);
        CHECK.is("there, but the hour is over", here.why(0, 0), 5);
    }

    /** "1 not READY, or not at a YARD". */
    private static void notReadyOrNotAtYard() {
        Scene s = Scene.busy();
        HireYard y = s.yard;
        int[] due = {1, 0, 6, 1, 1, 1, 1, 1, 6, 0};
        y.order(0, 0, 100, 1, 1);
        for (int machine = 0; machine < 10; machine++) {
            CHECK.is("machine " + machine, y.why(machine, 8), due[machine]);
        }
        y.fetch(0, 0);
        CHECK.is("on a load to a yard", y.why(0, 8), 1);
        s.pass(2);
        CHECK.is("at that yard", y.why(0, 8), 0);
    }
}
