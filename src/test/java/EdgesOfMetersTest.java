/** Each sentence of the document's section 3 that names an edge: readings, days of hires, tracks, theft. */
public final class EdgesOfMetersTest {
    private static final Check CHECK = new Check("edges of meters");

    public static void main(String[] args) {
        meterNotFalling();
        asItCameIsOne();
        anotherTakesItsPlace();
        anotherInItsHour();
        mostReadings();
        mostTracks();
        lengthOfDays();
        workedByBothEnds();
        workedByTheFirstAndTheLast();
        notByAheadAndBehind();
        perhapsWithoutOneBehind();
        lastDayIsLess();
        saidCounts();
        saidOfDay59();
        daysWorked();
        readingsOfAnotherHire();
        theftWithoutTracks();
        theftSinceAnHour();
        theftUpToTheHourOfTelling();
        theftInTheOrderTold();
        theftAheadOfTheFirstElsewhere();
        theftSinceItWasThere();
        theftOnALoad();
        theftEndsTheHire();
        theftOfOneThatIsPromised();
        CHECK.done();
    }

    /** "METER not falling"; promise 16: "BAD (less than METER, above 99999)". */
    private static void meterNotFalling() {
        Scene s = Scene.plain();
        HireYard y = s.yard;
        y.machine(0, 0, 99998);
        CHECK.is("less", y.read(0, 99997), Scene.BAD);
        CHECK.is("as much", y.read(0, 99998), 99998);
        CHECK.is("the most", y.read(0, 99999), 99999);
        CHECK.is("less in the same hour", y.read(0, 99998), Scene.BAD);
        CHECK.is("above", y.read(0, 100000), Scene.BAD);
        s.pass(1);
        CHECK.is("the most again", y.read(0, 99999), 99999);
        CHECK.is("it is METER", y.ofMachine(0, 1), 99999);
    }

    /** "its METER as it came is one at that HOUR". */
    private static void asItCameIsOne() {
        Scene s = Scene.plain();
        HireYard y = s.yard;
        s.pass(5);
        y.machine(0, 0, 10);
        y.order(0, 0, 5, 60, 8);
        s.promise(0);
        y.send(0);
        s.terms(0, 0, "hours");
        CHECK.is("none of the 400", y.count(7), 0);
        s.pass(1);
        y.read(0, 12);
        CHECK.is("from its beginning on", y.dayOf(0, 0), 1);
        CHECK.is("hours", y.gives(0, 0, 0), 2);
        Scene early = Scene.plain();
        early.pass(4);
        early.yard.machine(0, 0, 10);
        early.pass(1);
        early.yard.order(0, 0, 5, 60, 8);
        early.promise(0);
        early.yard.send(0);
        early.pass(1);
        early.yard.read(0, 12);
        CHECK.is("an hour ahead of its beginning", early.yard.dayOf(0, 0), 2);
    }

    /** "another one in the same HOUR takes its place": that of the METER as it came, too. */
    private static void anotherTakesItsPlace() {
        Scene s = Scene.hire();
        HireYard y = s.yard;
        y.read(0, 7);
        y.read(0, 9);
        s.terms(0, 0, "hours");
        s.pass(24);
        CHECK.is("no reading of less is left", y.dayOf(0, 0), 2);
        CHECK.is("hours", y.gives(0, 0, 0), 0);
        y.read(0, 9);
        CHECK.is("surely not", y.dayOf(0, 0), 0);
        y.read(0, 10);
        CHECK.is("surely worked", y.dayOf(0, 0), 1);
        CHECK.is("hours", y.gives(0, 0, 0), 1);
        CHECK.is("two hours, two readings", y.count(7), 2);
    }

    /** "of one HOUR the last one counts", in the middle of a DAY. */
    private static void anotherInItsHour() {
        Scene s = Scene.hire();
        s.pass(10);
        s.yard.read(0, 1);
        s.yard.read(0, 2);
        s.pass(10);
        s.yard.read(0, 2);
        s.pass(1);
        CHECK.is("from 0 to 2", s.yard.dayOf(0, 0), 1);
        CHECK.is("one an hour", s.yard.count(7), 2);
    }

    /** Promise 16: "FULL: it would be more than 400 READINGS in all (METERS as MACHINES came are none of these)". */
    private static void mostReadings() {
        Scene s = Scene.plain();
        HireYard y = s.yard;
        for (int i = 0; i < 20; i++) {
            y.machine(0, 0, 0);
        }
        for (int turn = 0; turn < 20; turn++) {
            s.pass(1);
            for (int i = 0; i < 20; i++) {
                CHECK.is("one of them", y.read(i, turn), turn);
            }
            CHECK.is("in all", y.count(7), 20 * turn + 20);
        }
        CHECK.is("in the place of another", y.read(19, 30), 30);
        CHECK.is("in all", y.count(7), 400);
        y.machine(0, 0, 5);
        CHECK.is("a machine may come", y.count(2), 21);
        s.pass(1);
        CHECK.is("one more", y.read(19, 30), Scene.FULL);
        CHECK.is("of the one that came", y.read(20, 5), Scene.FULL);
        CHECK.is("in all", y.count(7), 400);
    }

    /** "TRACKS: signals (HOUR, TOWN), at most 300". */
    private static void mostTracks() {
        Scene s = Scene.row(2, 30);
        HireYard y = s.yard;
        y.type(1000, 1, 0, 0);
        y.machine(0, 0, 0);
        y.machine(0, 0, 0);
        for (int i = 0; i < 299; i++) {
            y.track(i % 2, 0);
        }
        s.pass(3);
        CHECK.is("the last one", y.track(1, 1), 300);
        CHECK.is("of any machine", y.track(0, 1), Scene.FULL);
        s.pass(1);
        y.gone(0, 4);
        y.gone(1, 4);
        CHECK.is("the last one counts", y.theft(1, 1), 3);
        CHECK.is("the refused one does not", y.theft(0, 1), 4);
    }

    private static int daysOf(int hours, boolean ended) {
        Scene s = Scene.hire();
        s.pass(hours);
        if (ended) {
            s.yard.fetch(0, 0);
            s.pass(50);
        }
        return s.yard.days(0, 0);
    }

    /** "each of 24 HOURS from the beginning on, the last one perhaps less (none, if both are one HOUR)". */
    private static void lengthOfDays() {
        int[][] hoursDays = {{0, 0}, {1, 1}, {23, 1}, {24, 1}, {25, 2}, {48, 2}, {49, 3}, {1440, 60}, {1441, 61}};
        for (int[] h : hoursDays) {
            CHECK.is("now, after " + h[0], daysOf(h[0], false), h[1]);
            CHECK.is("ended, after " + h[0], daysOf(h[0], true), h[1]);
        }
    }

    /** A hire begun at hour 10 of a machine that came with 0 at hour 0; readings: hour, meter, by rising hours. */
    private static int dayByReadings(int day, int now, int... readings) {
        Scene s = Scene.plain();
        HireYard y = s.yard;
        y.machine(0, 0, 0);
        y.order(0, 0, 10, 60, 1);
        s.promise(0);
        y.send(0);
        for (int i = 0; i + 1 < readings.length; i += 2) {
            if (readings[i] > y.count(5)) {
                s.pass(readings[i] - y.count(5));
            }
            y.read(0, readings[i + 1]);
        }
        if (now > y.count(5)) {
            s.pass(now - y.count(5));
        }
        return y.dayOf(0, day);
    }

    /** "SURELY WORKED is a DAY if of its READINGS (from its beginning to its end, both counted)". */
    private static void workedByBothEnds() {
        CHECK.is("at both ends", dayByReadings(0, 60, 10, 1, 34, 2), 1);
        CHECK.is("an hour ahead of its beginning", dayByReadings(0, 60, 9, 1, 34, 2), 2);
        CHECK.is("an hour behind its end", dayByReadings(0, 60, 10, 1, 35, 2), 2);
        CHECK.is("within", dayByReadings(0, 60, 11, 1, 33, 2), 1);
        CHECK.is("the next day has its beginning there", dayByReadings(1, 60, 34, 2, 58, 3), 1);
        CHECK.is("one reading alone, at its end", dayByReadings(0, 60, 34, 1), 2);
        CHECK.is("one reading alone, at its beginning", dayByReadings(0, 60, 10, 1), 2);
        CHECK.is("none at all", dayByReadings(0, 60), 2);
    }

    /** "the first and the last have unlike METERS". */
    private static void workedByTheFirstAndTheLast() {
        CHECK.is("the last alone is unlike", dayByReadings(0, 60, 11, 1, 12, 1, 13, 1, 14, 2), 1);
        CHECK.is("the first alone is unlike", dayByReadings(0, 60, 11, 1, 12, 2, 13, 2), 1);
        CHECK.is("all alike, the first one ahead unlike", dayByReadings(0, 60, 11, 1, 12, 1, 13, 1), 2);
    }

    /** "SURELY NOT, if the latest READING at its beginning or ahead and the earliest one at its end or behind ...". */
    private static void notByAheadAndBehind() {
        CHECK.is("as it came, and at its end", dayByReadings(0, 60, 34, 0), 0);
        CHECK.is("as it came, and far behind", dayByReadings(0, 60, 60, 0), 0);
        CHECK.is("at its beginning and at its end", dayByReadings(0, 60, 10, 5, 34, 5), 0);
        CHECK.is("the latest at its beginning", dayByReadings(0, 60, 9, 4, 10, 5, 40, 5), 0);
        CHECK.is("the latest ahead", dayByReadings(0, 60, 8, 4, 9, 5, 40, 5), 0);
        CHECK.is("the earliest at its end", dayByReadings(0, 60, 9, 5, 34, 5, 35, 6), 0);
        CHECK.is("the earliest behind", dayByReadings(0, 60, 9, 5, 35, 5, 36, 6), 0);
        CHECK.is("unlike behind", dayByReadings(0, 60, 9, 5, 35, 6), 2);
        CHECK.is("the second day by the same two", dayByReadings(1, 60, 9, 5, 58, 5), 0);
        CHECK.is("an hour ahead of its end is neither", dayByReadings(1, 60, 9, 5, 57, 5), 2);
    }

    /** "else PERHAPS": a reading at its end or behind may still come. */
    private static void perhapsWithoutOneBehind() {
        CHECK.is("none behind", dayByReadings(0, 60, 10, 5, 33, 5), 2);
        CHECK.is("one at its end", dayByReadings(0, 60, 10, 5, 33, 5, 34, 5), 0);
    }

    /** "the last one perhaps less": it ends with the hire, or now. */
    private static void lastDayIsLess() {
        CHECK.is("a reading now", dayByReadings(1, 40, 34, 5, 40, 5), 0);
        CHECK.is("a reading an hour ago", dayByReadings(1, 41, 34, 5, 40, 5), 2);
        CHECK.is("worked by now", dayByReadings(1, 40, 34, 5, 40, 6), 1);
        Scene s = Scene.hire();
        s.pass(30);
        s.yard.read(0, 4);
        s.yard.fetch(0, 0);
        s.pass(1);
        s.yard.read(0, 4);
        CHECK.is("at its end alone", s.yard.dayOf(0, 1), 2);
        Scene behind = Scene.hire();
        behind.pass(30);
        behind.yard.fetch(0, 0);
        behind.pass(1);
        behind.yard.read(0, 4);
        CHECK.is("a reading behind the end is none of its own", behind.yard.dayOf(0, 1), 2);
        Scene same = Scene.hire();
        same.pass(24);
        same.yard.read(0, 4);
        same.pass(6);
        same.yard.fetch(0, 0);
        same.pass(100);
        same.yard.read(0, 4);
        CHECK.is("but it tells that it stood", same.yard.dayOf(0, 1), 0);
    }

    /** "what is SAID by the CUSTOMER counts then (1 worked, 0 not); without a word it counts as worked". */
    private static void saidCounts() {
        Scene s = Scene.hire();
        HireYard y = s.yard;
        s.pass(1);
        CHECK.is("without a word", y.dayOf(0, 0), 2);
        y.said(0, 0, 0);
        CHECK.is("not", y.dayOf(0, 0), 3);
        CHECK.is("counted", y.days(0, 3), 0);
        y.said(0, 0, 1);
        CHECK.is("worked", y.dayOf(0, 0), 2);
        CHECK.is("counted", y.days(0, 3), 1);
        y.read(0, 1);
        y.said(0, 0, 0);
        CHECK.is("no word against a meter", y.dayOf(0, 0), 1);
        CHECK.is("counted", y.days(0, 3), 1);
    }

    /** Promise 32: "DAY i (0 .. 59) of a HIRE". */
    private static void saidOfDay59() {
        Scene s = Scene.hire();
        HireYard y = s.yard;
        CHECK.is("day 59", y.said(0, 59, 0), 1);
        CHECK.is("day 60", y.said(0, 60, 0), Scene.BAD);
        CHECK.is("day -1", y.said(0, -1, 0), Scene.BAD);
        s.pass(61 * 24);
        CHECK.is("day 58", y.dayOf(0, 58), 2);
        CHECK.is("day 59", y.dayOf(0, 59), 3);
        CHECK.is("day 60 counts as worked", y.dayOf(0, 60), 2);
        CHECK.is("day 61", y.dayOf(0, 61), Scene.BAD);
        CHECK.is("all but one", y.days(0, 3), 60);
    }

    /** "least (SURELY), most (all that are not surely NOT), and as it is counted". */
    private static void daysWorked() {
        Scene s = Scene.hire();
        HireYard y = s.yard;
        s.pass(24);
        y.read(0, 1);
        s.pass(24);
        y.read(0, 1);
        s.pass(40);
        y.said(0, 0, 0);
        y.said(0, 1, 1);
        y.said(0, 3, 0);
        CHECK.row("a day of each sort", new long[] {y.dayOf(0, 0), y.dayOf(0, 1), y.dayOf(0, 2), y.dayOf(0, 3)},
            1, 0, 2, 3);
        CHECK.row("days", new long[] {y.days(0, 0), y.days(0, 1), y.days(0, 2), y.days(0, 3)}, 4, 1, 3, 2);
    }

    /** READINGS are the MACHINE's: those told on its next HIRE tell of the last one, too. */
    private static void readingsOfAnotherHire() {
        Scene s = Scene.hire();
        HireYard y = s.yard;
        s.pass(24);
        y.fetch(0, 0);
        y.order(0, 0, 24, 5, 1);
        s.promise(1);
        y.send(1);
        s.pass(6);
        y.read(0, 0);
        CHECK.is("the last hire's day", y.dayOf(0, 0), 0);
        CHECK.is("the next one's day", y.dayOf(1, 0), 0);
    }

    private static void expectTheft(String what, HireYard y, int from, int to, int town) {
        CHECK.row(what, new long[] {y.theft(0, 0), y.theft(0, 1), y.theft(0, 2)}, from, to, town);
    }

    /** Two towns, machine 0 told in HOUR 5 at the yard of town 1; tracks: hour, town; stolen at an hour. */
    private static HireYard stolenAt(int hour, int... tracks) {
        Scene s = Scene.row(3, 30);
        HireYard y = s.yard;
        y.type(1000, 1, 0, 0);
        s.pass(5);
        y.machine(0, 1, 0);
        boolean told = false;
        for (int i = 0; i + 1 < tracks.length; i += 2) {
            if (!told && tracks[i] > hour) {
                s.pass(hour - y.count(5));
                y.gone(0, 4);
                told = true;
            }
            s.pass(tracks[i] - y.count(5));
            y.track(0, tracks[i + 1]);
        }
        if (!told) {
            s.pass(hour - y.count(5));
            y.gone(0, 4);
        }
        return y;
    }

    /** "that HOUR itself, if there is none"; "or the HOUR of telling". */
    private static void theftWithoutTracks() {
        expectTheft("none", stolenAt(9), 5, 9, 1);
        expectTheft("told at once", stolenAt(5), 5, 5, 1);
    }

    /** "since an HOUR": that HOUR counts. */
    private static void theftSinceAnHour() {
        expectTheft("elsewhere in that hour", stolenAt(9, 5, 0), 5, 5, 1);
        expectTheft("there in that hour", stolenAt(9, 5, 1, 6, 0), 5, 6, 1);
        expectTheft("there an hour behind", stolenAt(9, 6, 1), 6, 9, 1);
    }

    /** "TRACKS up to the HOUR of telling count". */
    private static void theftUpToTheHourOfTelling() {
        expectTheft("there in the hour of telling", stolenAt(9, 9, 1), 9, 9, 1);
        expectTheft("elsewhere in the hour of telling", stolenAt(9, 6, 1, 9, 0), 6, 9, 1);
        expectTheft("there an hour behind", stolenAt(9, 10, 1), 5, 9, 1);
        expectTheft("elsewhere an hour behind", stolenAt(9, 10, 0), 5, 9, 1);
        expectTheft("there, elsewhere an hour behind", stolenAt(9, 7, 1, 10, 0), 7, 9, 1);
    }

    /** "in the order in which they were told". */
    private static void theftInTheOrderTold() {
        expectTheft("there, then elsewhere in one hour", stolenAt(9, 6, 1, 7, 1, 7, 0), 7, 7, 1);
        expectTheft("elsewhere, then there in one hour", stolenAt(9, 6, 1, 7, 0, 7, 1), 6, 7, 1);
    }

    /** "the HOUR of the last TRACK in it, since then, ahead of the first TRACK elsewhere". */
    private static void theftAheadOfTheFirstElsewhere() {
        expectTheft("the last one in it", stolenAt(20, 6, 1, 8, 1, 11, 0, 12, 1, 13, 0), 8, 11, 1);
        expectTheft("none in it ahead", stolenAt(20, 11, 0, 12, 1), 5, 11, 1);
        expectTheft("all in it", stolenAt(20, 6, 1, 8, 1, 12, 1), 12, 20, 1);
        expectTheft("each elsewhere", stolenAt(20, 7, 0, 8, 2), 5, 7, 1);
    }

    /** "when it came there": TRACKS on the way to it count not. */
    private static void theftSinceItWasThere() {
        Scene s = Scene.row(2, 60);
        HireYard y = s.yard;
        y.type(1000, 1, 0, 0);
        y.customer(1, 1);
        y.machine(0, 0, 0);
        y.order(0, 0, 9, 1, 1);
        s.promise(0);
        s.pass(1);
        y.send(0);
        s.pass(1);
        y.track(0, 0);
        y.track(0, 1);
        s.pass(1);
        CHECK.is("there, hire not begun", y.ofMachine(0, 2), 2);
        s.pass(1);
        y.gone(0, 4);
        expectTheft("since it came there", y, 3, 4, 1);
    }

    /** "or to which it was ON A LOAD ... or was loaded". */
    private static void theftOnALoad() {
        Scene s = Scene.row(2, 90);
        HireYard y = s.yard;
        y.type(1000, 1, 0, 0);
        y.customer(1, 1);
        y.machine(0, 0, 0);
        y.order(0, 0, 9, 1, 1);
        s.promise(0);
        y.track(0, 0);
        s.pass(1);
        y.send(0);
        s.pass(2);
        y.gone(0, 4);
        expectTheft("since it was loaded", y, 1, 3, 1);
        Scene back = Scene.row(2, 90);
        back.yard.type(1000, 1, 0, 0);
        back.yard.customer(0, 1);
        back.yard.machine(0, 0, 0);
        back.yard.order(0, 0, 0, 1, 1);
        back.promise(0);
        back.yard.send(0);
        back.pass(4);
        back.yard.fetch(0, 1);
        back.pass(1);
        back.yard.track(0, 0);
        back.yard.gone(0, 4);
        expectTheft("to a yard", back.yard, 4, 5, 1);
    }

    /** Promise 15: "a HIRE that has begun ends now, it is DONE; a BROKEN span ends". */
    private static void theftEndsTheHire() {
        Scene s = Scene.hire();
        HireYard y = s.yard;
        s.terms(0, 0, "broken");
        s.pass(20);
        y.broken(0, 1);
        s.pass(5);
        CHECK.is("stolen", y.gone(0, 4), 1);
        s.pass(30);
        CHECK.row("done", s.ofOrder(0), 0, 0, 0, 60, 8, 3, 0, 0, 25, 0);
        CHECK.is("two days", y.days(0, 0), 2);
        CHECK.is("broken for five hours", y.gives(0, 0, 0), 5);
        CHECK.is("not broken any more", y.broken(0, 0), Scene.NOT);
        CHECK.is("the look in may be told", y.looked(0, 1, 1), 1);
    }

    /** Promise 15: "an ORDER for which it is PROMISED, or whose HIRE has not begun, WAITS again". */
    private static void theftOfOneThatIsPromised() {
        Scene s = Scene.plain();
        HireYard y = s.yard;
        y.machine(0, 0, 0);
        y.machine(0, 0, 0);
        y.order(0, 0, 2, 1, 1);
        s.promise(0);
        y.gone(0, 4);
        CHECK.row("promised", s.ofOrder(0), 0, 0, 2, 1, 1, 0, -1, -1, -1, 0);
        CHECK.is("listed again", s.promise(0), 1);
        y.send(0);
        s.pass(1);
        CHECK.is("sent, begins an hour later", y.ofOrder(0, 7), 2);
        y.gone(1, 4);
        CHECK.row("not begun", s.ofOrder(0), 0, 0, 2, 1, 1, 0, -1, -1, -1, 0);
        y.machine(0, 0, 0);
        CHECK.is("listed again", s.promise(0), 1);
        y.send(0);
        s.pass(1);
        y.gone(2, 4);
        CHECK.row("begun in this hour", s.ofOrder(0), 0, 0, 2, 1, 1, 3, 2, 2, 2, 0);
        CHECK.is("it waits no more", y.list(0), Scene.NOT);
    }
}
