/** Each sentence of the document's sections 4 to 6 that names an edge of a NAME, of looks, of chains, of idle ones. */
public final class EdgesOfNamesTest {
    private static final Check CHECK = new Check("edges of names");

    public static void main(String[] args) {
        weeksAndRest();
        daysAndAll();
        hoursByReadings();
        overIsZeroAtLeast();
        rainFromItsBeginning();
        rainUpToItsEnd();
        rainOfLastDay();
        brokenFromItsBeginning();
        brokenUpToItsEnd();
        brokenGoesOn();
        fuelNotBroughtBack();
        harmOfFirstAndLastMark();
        rateOfTheTypeOrdered();
        ownOrCrossHired();
        looksToldOnce();
        looksWhenTheyMay();
        lookInUntilSentAnew();
        damageIfBothWereTold();
        fiveLinks();
        shareOfLastLink();
        shareOfNoDays();
        rankOfOne();
        wouldLose();
        idleIsReady();
        wantedOfAnyState();
        wantedInThirtyDays();
        moveOneAtLeast();
        moveOfSeveral();
        moveFromYardToYard();
        CHECK.done();
    }

    private static int gives(Scene s, String text) {
        int number = s.terms(0, 0, text);
        return s.yard.gives(number, 0, 5);
    }

    /** "weeks (all / 7), rest (all % 7)". */
    private static void weeksAndRest() {
        int[][] allWeeksRest = {{0, 0, 0}, {1, 0, 1}, {6, 0, 6}, {7, 1, 0}, {8, 1, 1}, {13, 1, 6}, {14, 2, 0}, {60, 8, 4}};
        for (int[] a : allWeeksRest) {
            Scene s = Scene.hire();
            s.pass(24 * a[0]);
            CHECK.is("all " + a[0], gives(s, "all"), a[0]);
            CHECK.is("weeks of " + a[0], gives(s, "weeks"), a[1]);
            CHECK.is("rest of " + a[0], gives(s, "rest"), a[2]);
        }
    }

    /** "days (worked, as counted), all (DAYS of the HIRE)". */
    private static void daysAndAll() {
        Scene s = Scene.hire();
        s.pass(49);
        s.yard.said(0, 1, 0);
        s.terms(0, 0, "days*100+all");
        CHECK.is("as counted", s.yard.bill(0, 9, 0), 203);
    }

    /** "hours (METER of the last READING up to its end less that of the last one up to its beginning". */
    private static void hoursByReadings() {
        Scene s = Scene.plain();
        HireYard y = s.yard;
        y.machine(0, 0, 3);
        y.order(0, 0, 10, 60, 8);
        s.promise(0);
        y.send(0);
        s.terms(0, 0, "hours");
        s.pass(9);
        y.read(0, 5);
        s.pass(1);
        CHECK.is("none yet", y.gives(0, 0, 0), 0);
        y.read(0, 8);
        CHECK.is("a reading at its beginning", y.gives(0, 0, 0), 0);
        s.pass(10);
        y.read(0, 20);
        CHECK.is("since then", y.gives(0, 0, 0), 12);
        s.pass(1);
        y.fetch(0, 0);
        y.read(0, 21);
        CHECK.is("a reading at its end", y.gives(0, 0, 0), 13);
        s.pass(1);
        y.read(0, 50);
        CHECK.is("a reading behind its end", y.gives(0, 0, 0), 13);
        Scene came = Scene.plain();
        came.yard.machine(0, 0, 700);
        came.yard.order(0, 0, 10, 60, 8);
        came.promise(0);
        came.yard.send(0);
        came.pass(11);
        CHECK.is("its METER as it came is one", gives(came, "hours"), 0);
    }

    /** "over (hours less all times hours of work a DAY as ordered; 0 at least)". */
    private static void overIsZeroAtLeast() {
        int[][] meterOver = {{0, 0}, {15, 0}, {16, 0}, {17, 1}, {90, 74}};
        for (int[] m : meterOver) {
            Scene s = Scene.hire();
            s.pass(25);
            s.yard.read(0, m[0]);
            CHECK.is("over of " + m[0], gives(s, "100+over"), 100 + m[1]);
        }
    }

    private static Scene rainScene(int begin, int rainyDay) {
        Scene s = Scene.plain();
        s.yard.machine(0, 0, 0);
        s.yard.order(0, 0, begin, 60, 8);
        s.promise(0);
        s.yard.send(0);
        s.yard.rain(rainyDay, 1);
        s.terms(0, 0, "rain");
        return s;
    }

    /** "rain (DAYS of the calendar told as RAIN that have an HOUR from its beginning". */
    private static void rainFromItsBeginning() {
        int[][] beginDays = {{23, 1}, {24, 0}, {0, 1}, {22, 1}};
        for (int[] b : beginDays) {
            Scene s = rainScene(b[0], 0);
            s.pass(60);
            CHECK.is("rain on day 0, from hour " + b[0], s.yard.gives(0, 0, 0), b[1]);
        }
    }

    /** "up to its end, that one not counted)". */
    private static void rainUpToItsEnd() {
        int[][] endDays = {{47, 0}, {48, 0}, {49, 1}, {72, 1}};
        for (int[] e : endDays) {
            Scene s = rainScene(20, 2);
            s.pass(e[0]);
            CHECK.is("rain on day 2, till now, hour " + e[0], s.yard.gives(0, 0, 0), e[1]);
            s.yard.fetch(0, 0);
            s.pass(50);
            CHECK.is("rain on day 2, ended in hour " + e[0], s.yard.gives(0, 0, 0), e[1]);
        }
        Scene none = rainScene(20, 0);
        none.pass(20);
        CHECK.is("a hire of no hours", none.yard.gives(0, 0, 0), 0);
        none.pass(1);
        CHECK.is("of one", none.yard.gives(0, 0, 0), 1);
    }

    /** "A DAY (0 .. 999)": the last one. */
    private static void rainOfLastDay() {
        Scene s = rainScene(23980, 999);
        s.pass(23999);
        CHECK.is("the last day", s.yard.gives(0, 0, 0), 1);
        CHECK.is("it was told", s.yard.rain(999, 0), 1);
        CHECK.is("no more", s.yard.gives(0, 0, 0), 0);
    }

    /** A hire from hour 10 on to hour 20, its machine broken from an hour to another one. */
    private static int brokenHours(int from, int to) {
        Scene s = Scene.plain();
        HireYard y = s.yard;
        y.machine(0, 0, 0);
        y.order(0, 0, 10, 60, 8);
        s.promise(0);
        y.send(0);
        for (int hour = 0; hour <= 40; hour++) {
            if (hour == from) {
                y.broken(0, 1);
            }
            if (hour == to) {
                y.broken(0, 0);
            }
            if (hour == 20) {
                y.fetch(0, 0);
            }
            y.hours(1);
        }
        return gives(s, "100+broken") - 100;
    }

    /** "broken (HOURS BROKEN from its beginning". */
    private static void brokenFromItsBeginning() {
        CHECK.is("ahead of it", brokenHours(2, 7), 0);
        CHECK.is("up to it", brokenHours(2, 10), 0);
        CHECK.is("an hour of it", brokenHours(2, 11), 1);
        CHECK.is("from it on", brokenHours(10, 13), 3);
    }

    /** "up to its end)". */
    private static void brokenUpToItsEnd() {
        CHECK.is("within", brokenHours(12, 15), 3);
        CHECK.is("of no hours", brokenHours(15, 15), 0);
        CHECK.is("to its end", brokenHours(17, 20), 3);
        CHECK.is("beyond its end", brokenHours(17, 30), 3);
        CHECK.is("from its end on", brokenHours(20, 30), 0);
        CHECK.is("behind its end", brokenHours(25, 30), 0);
        CHECK.is("all of it", brokenHours(5, 35), 10);
    }

    /** "a span that goes on ends now". */
    private static void brokenGoesOn() {
        Scene s = Scene.hire();
        s.terms(0, 0, "broken");
        s.pass(3);
        s.yard.broken(0, 1);
        CHECK.is("no hour yet", s.yard.gives(0, 0, 0), 0);
        s.pass(4);
        CHECK.is("up to now", s.yard.gives(0, 0, 0), 4);
        s.pass(1);
        CHECK.is("up to now", s.yard.gives(0, 0, 0), 5);
        CHECK.is("broken behind its end", brokenHours(17, 99), 3);
    }

    private static HireYard filled(int out, int in) {
        Scene s = Scene.hire();
        if (out >= 0) {
            s.yard.fuel(0, 0, out);
        }
        s.yard.fetch(0, 0);
        if (in >= 0) {
            s.yard.fuel(0, 1, in);
        }
        return s.yard;
    }

    /** "not brought back is OUT less IN, 0 at least (0, if not both are told)"; "(0 .. 999". */
    private static void fuelNotBroughtBack() {
        int[][] outInMissing = {{999, 0, 999}, {0, 999, 0}, {0, 0, 0}, {50, 50, 0}, {50, 49, 1}, {49, 50, 0}, {999, -1, 0},
            {-1, 0, 0}, {-1, 999, 0}, {-1, -1, 0}, {1, 0, 1}};
        for (int[] f : outInMissing) {
            CHECK.is("out " + f[0] + ", in " + f[1], filled(f[0], f[1]).harm(0, 2), f[2]);
        }
    }

    private static HireYard marked(int out, int in) {
        Scene s = Scene.hire();
        for (int mark = 0; mark < 16; mark++) {
            s.yard.mark(0, mark, mark == 0 ? 9999 : mark == 15 ? 7 : 100);
        }
        if (out >= 0) {
            s.yard.looked(0, 0, out);
        }
        s.yard.fetch(0, 0);
        if (in >= 0) {
            s.yard.looked(0, 1, in);
        }
        return s.yard;
    }

    /** "COST of each mark 0 .. 15 is told by TYPE (0 .. 9999; 0 at first): harm is their sum". */
    private static void harmOfFirstAndLastMark() {
        CHECK.is("mark 0", marked(0, 1).harm(0, 1), 9999);
        CHECK.is("mark 15", marked(0, 32768).harm(0, 1), 7);
        CHECK.is("all marks", marked(0, 65535).harm(0, 1), 9999 + 7 + 1400);
        CHECK.is("all marks", marked(0, 65535).harm(0, 0), 65535);
        Scene s = Scene.hire();
        s.yard.looked(0, 0, 0);
        s.yard.fetch(0, 0);
        s.yard.looked(0, 1, 65535);
        CHECK.is("0 at first", s.yard.harm(0, 1), 0);
        s.yard.mark(0, 9, 3);
        CHECK.is("as told now", s.yard.harm(0, 1), 3);
    }

    /** "rate (DAY RATE of the TYPE ordered; all else by the MACHINE's own TYPE)"; "sub (1 if a SUBSTITUTE)". */
    private static void rateOfTheTypeOrdered() {
        Scene s = Scene.plain();
        HireYard y = s.yard;
        y.type(10000, 9999, 0, 99999);
        y.instead(1, 0, 1);
        y.machine(1, 0, 0);
        y.order(0, 0, 0, 1, 1);
        s.promise(0);
        y.send(0);
        CHECK.is("rate", gives(s, "rate"), 100);
        CHECK.is("worth", gives(s, "worth"), 99999);
        CHECK.is("sub", gives(s, "sub"), 1);
        y.instead(1, 0, 0);
        CHECK.is("a substitute still", gives(s, "sub"), 1);
        CHECK.is("none of its own type", gives(Scene.hire(), "sub"), 0);
    }

    /** "own (1, or 0: CROSS HIRED)". */
    private static void ownOrCrossHired() {
        Scene s = Scene.hire();
        CHECK.is("own", gives(s, "own"), 1);
        s.yard.link(0, 0, 1);
        CHECK.is("cross hired", gives(s, "own"), 0);
        s.yard.link(0, 0, 1);
        CHECK.is("over two", gives(s, "own"), 0);
    }

    /** "each told once for an ORDER, also if it WAITS again". */
    private static void looksToldOnce() {
        Scene s = Scene.plain();
        HireYard y = s.yard;
        y.machine(0, 0, 0);
        y.order(0, 0, 9, 1, 1);
        s.promise(0);
        CHECK.is("out", y.looked(0, 0, 6), 1);
        CHECK.is("out again, alike", y.looked(0, 0, 6), Scene.NOT);
        CHECK.is("litres out", y.fuel(0, 0, 6), 1);
        CHECK.is("litres out again", y.fuel(0, 0, 6), Scene.NOT);
        y.gone(0, 4);
        CHECK.is("it waits", y.looked(0, 0, 7), Scene.NOT);
        y.machine(0, 0, 0);
        s.promise(0);
        CHECK.is("promised again", y.looked(0, 0, 7), Scene.NOT);
        CHECK.is("litres", y.fuel(0, 0, 7), Scene.NOT);
        y.send(0);
        CHECK.is("sent", y.looked(0, 0, 7), Scene.NOT);
        s.pass(9);
        y.fetch(0, 0);
        CHECK.is("in", y.looked(0, 1, 7), 1);
        CHECK.is("in again", y.looked(0, 1, 7), Scene.NOT);
        CHECK.is("by the look out of the machine that was stolen", y.harm(0, 0), 1);
    }

    /** "OUT while it is PROMISED or OUT; IN when it is DONE". */
    private static void looksWhenTheyMay() {
        int[][] orderOutIn = {{0, 1, Scene.NOT}, {1, Scene.NOT, Scene.NOT}, {2, 1, Scene.NOT}, {3, 1, Scene.NOT},
            {4, Scene.NOT, Scene.NOT}, {5, Scene.NOT, Scene.NOT}, {6, Scene.NOT, Scene.NOT}};
        for (int[] o : orderOutIn) {
            HireYard y = Scene.busy().yard;
            CHECK.is("look in, order " + o[0], y.looked(o[0], 1, 0), o[2]);
            CHECK.is("look out, order " + o[0], y.looked(o[0], 0, 0), o[1]);
            CHECK.is("litres in, order " + o[0], y.fuel(o[0], 1, 0), o[2]);
            CHECK.is("litres out, order " + o[0], y.fuel(o[0], 0, 0), o[1]);
        }
    }

    /** "and the MACHINE was not SENT anew since". */
    private static void lookInUntilSentAnew() {
        for (int told = 0; told < 3; told++) {
            Scene s = Scene.hire();
            HireYard y = s.yard;
            y.looked(0, 0, 0);
            y.fetch(0, 0);
            y.order(0, 0, 0, 1, 1);
            if (told > 0) {
                s.promise(1);
            }
            if (told > 1) {
                y.send(1);
            }
            CHECK.is("look in, case " + told, y.looked(0, 1, 4), told > 1 ? Scene.NOT : 1);
            CHECK.is("litres in, case " + told, y.fuel(0, 1, 4), told > 1 ? Scene.NOT : 1);
            CHECK.is("damage, case " + told, y.harm(0, 0), told > 1 ? 0 : 4);
        }
        Scene back = Scene.hire();
        back.yard.fetch(0, 0);
        back.yard.order(0, 0, 0, 1, 1);
        back.promise(1);
        back.yard.send(1);
        back.yard.fetch(1, 0);
        CHECK.is("sent anew, and back", back.yard.looked(0, 1, 4), Scene.NOT);
        CHECK.is("of the later one", back.yard.looked(1, 1, 4), 1);
        Scene stolen = Scene.hire();
        stolen.yard.fetch(0, 0);
        stolen.yard.order(0, 0, 5, 1, 1);
        stolen.promise(1);
        stolen.yard.send(1);
        stolen.yard.gone(0, 4);
        CHECK.is("the later one waits again", stolen.yard.ofOrder(1, 5), 0);
        CHECK.is("sent anew nevertheless", stolen.yard.looked(0, 1, 4), Scene.NOT);
    }

    /** "DAMAGE: marks IN that were not OUT, if both were told; else none". */
    private static void damageIfBothWereTold() {
        int[][] outInDamage = {{0, 0, 0}, {0, 5, 5}, {5, 0, 0}, {5, 5, 0}, {1, 5, 4}, {65535, 65535, 0}, {0, 65535, 65535},
            {-1, 5, 0}, {5, -1, 0}, {-1, -1, 0}};
        for (int[] m : outInDamage) {
            CHECK.is("out " + m[0] + ", in " + m[1], marked(m[0], m[1]).harm(0, 0), m[2]);
        }
    }

    /** "LINKS 0 .. 4, as told". */
    private static void fiveLinks() {
        HireYard y = Scene.hire().yard;
        CHECK.is("own", y.ofMachine(0, 8), 0);
        for (int i = 0; i < 5; i++) {
            CHECK.is("link " + i, y.link(0, 9 - i, 10 + i), i + 1);
            CHECK.is("none behind it", y.chain(0, i + 1, 0), Scene.BAD);
        }
        CHECK.is("a sixth", y.link(0, 0, 1), Scene.FULL);
        CHECK.is("link 4", y.chain(0, 4, 0), 5);
        CHECK.is("link 5", y.chain(0, 5, 0), Scene.BAD);
    }

    /** "SHARE of link i ...: its RATE times DAYS worked as counted, less that of link i + 1 times these (if there is one)". */
    private static void shareOfLastLink() {
        Scene s = Scene.hire();
        HireYard y = s.yard;
        s.pass(72);
        y.said(0, 0, 0);
        y.link(0, 1, 9999);
        CHECK.is("one alone", y.share(0, 0), 19998);
        y.link(0, 2, 1);
        CHECK.is("the first of two", y.share(0, 0), 19996);
        CHECK.is("the last of two", y.share(0, 1), 2);
        y.link(0, 3, 9999);
        CHECK.is("it loses", y.share(0, 1), -19996);
        CHECK.is("none such", y.share(0, 3), Scene.VOID);
    }

    /** Of a HIRE of no DAYS. */
    private static void shareOfNoDays() {
        Scene s = Scene.hire();
        CHECK.is("no link", s.yard.share(0, 0), Scene.VOID);
        s.yard.link(0, 1, 9999);
        CHECK.is("no days", s.yard.share(0, 0), 0);
    }

    /** "RANK: the last link's OWNER may fetch it first, then the one ahead, up to link 0". */
    private static void rankOfOne() {
        HireYard y = Scene.hire().yard;
        CHECK.is("own", y.rank(0, 0), Scene.BAD);
        y.link(0, 0, 1);
        CHECK.is("one", y.rank(0, 0), 0);
        CHECK.is("no more", y.rank(0, 1), Scene.BAD);
        for (int i = 1; i < 5; i++) {
            y.link(0, i, 1);
        }
        for (int i = 0; i < 5; i++) {
            CHECK.is("rank " + i, y.rank(0, i), 4 - i);
        }
        CHECK.is("no sixth", y.rank(0, 5), Scene.BAD);
    }

    /** Promise 45: "whether it would lose (1: its RATE is less than that of the next one)". */
    private static void wouldLose() {
        int[][] ratesLoses = {{50, 49, 0}, {50, 50, 0}, {50, 51, 1}};
        for (int[] r : ratesLoses) {
            HireYard y = Scene.hire().yard;
            y.link(0, 0, r[0]);
            CHECK.is("without a next one", y.chain(0, 0, 1), 0);
            y.link(0, 0, r[1]);
            CHECK.is(r[0] + " and " + r[1], y.chain(0, 0, 1), r[2]);
            CHECK.is("the last one", y.chain(0, 1, 1), 0);
        }
    }

    /** "IDLE: a MACHINE READY at a YARD, not PROMISED". */
    private static void idleIsReady() {
        HireYard y = Scene.busy().yard;
        CHECK.is("machine 9 alone", y.idle(0, 0, 0), 1);
        CHECK.is("machine 1 alone", y.idle(0, 1, 0), 1);
        CHECK.is("neither out nor broken nor on a load", y.idle(1, 0, 0) + y.idle(1, 1, 0) + y.idle(1, 2, 0), 0);
        y.broken(4, 0);
        CHECK.is("mended", y.idle(1, 0, 0), 1);
        y.off(7);
        CHECK.is("not promised any more", y.idle(0, 0, 0), 2);
        y.hours(49);
        CHECK.is("in look still", y.idle(0, 1, 0), 1);
        y.hours(1);
        CHECK.is("the look is done", y.idle(0, 1, 0), 2);
    }

    /** "WANTED in a TOWN: ORDERS (of any state) of a TYPE from CUSTOMERS of the TOWN". */
    private static void wantedOfAnyState() {
        HireYard y = Scene.busy().yard;
        CHECK.is("out, type 1", y.idle(1, 1, 1), 1);
        CHECK.is("gone, type 0", y.idle(0, 1, 1), 1);
        CHECK.is("done and waiting, type 0", y.idle(0, 2, 1), 3);
        CHECK.is("out, not begun, type 1", y.idle(1, 2, 1), 1);
        CHECK.is("promised, type 0", y.idle(0, 0, 1), 2);
        CHECK.is("of no customer", y.idle(0, 3, 1), 0);
        CHECK.is("of no order", y.idle(2, 0, 1), 0);
    }

    /** "that came in the last 30 DAYS (fewer than 720 HOURS ago)". */
    private static void wantedInThirtyDays() {
        Scene s = Scene.plain();
        s.pass(3);
        s.yard.order(0, 0, 23999, 1, 1);
        CHECK.is("now", s.yard.idle(0, 0, 1), 1);
        s.pass(719);
        CHECK.is("719 hours ago", s.yard.idle(0, 0, 1), 1);
        s.pass(1);
        CHECK.is("720 hours ago", s.yard.idle(0, 0, 1), 0);
    }

    private static Scene moveScene() {
        Scene s = Scene.row(5, 30);
        s.yard.type(1000, 1, 0, 0);
        for (int town = 0; town < 5; town++) {
            s.yard.customer(town, 1);
        }
        return s;
    }

    private static void put(HireYard y, int town, int machines, int orders) {
        for (int i = 0; i < machines; i++) {
            y.machine(0, town, 0);
        }
        for (int i = 0; i < orders; i++) {
            y.order(town, 0, 23999, 1, 1);
        }
    }

    /** "(1 at least"; "NOT: there are not both". */
    private static void moveOneAtLeast() {
        HireYard y = moveScene().yard;
        CHECK.is("neither", y.move(0), Scene.NOT);
        put(y, 1, 2, 2);
        put(y, 2, 3, 2);
        CHECK.is("none is wanted more", y.move(0), Scene.NOT);
        put(y, 3, 0, 1);
        CHECK.is("one of each", y.move(0), 203);
        HireYard wanted = moveScene().yard;
        put(wanted, 3, 0, 4);
        put(wanted, 1, 2, 2);
        CHECK.is("none is idle more", wanted.move(0), Scene.NOT);
    }

    /** "of several the least TOWN"; "(likewise)". */
    private static void moveOfSeveral() {
        HireYard y = moveScene().yard;
        put(y, 4, 2, 0);
        put(y, 1, 2, 0);
        put(y, 3, 0, 2);
        put(y, 2, 0, 2);
        CHECK.is("the least towns", y.move(0), 102);
        put(y, 4, 1, 0);
        put(y, 3, 0, 1);
        CHECK.is("the most", y.move(0), 403);
        put(y, 0, 3, 0);
        CHECK.is("town 0", y.move(0), 3);
    }

    /** "from the YARD's TOWN ... to the YARD's TOWN"; promise 48: "100 times the one TOWN, and the other". */
    private static void moveFromYardToYard() {
        HireYard y = new HireYard();
        for (int town = 0; town < 12; town++) {
            y.town(town == 5 ? 0 : 1);
        }
        y.type(1000, 1, 0, 0);
        y.customer(5, 1);
        y.customer(10, 1);
        put(y, 11, 1, 0);
        y.order(0, 0, 23999, 1, 1);
        y.order(0, 0, 23999, 1, 1);
        CHECK.is("no yard where it is wanted", y.move(0), Scene.NOT);
        y.order(1, 0, 23999, 1, 1);
        CHECK.is("where a yard is", y.move(0), 1110);
    }
}
