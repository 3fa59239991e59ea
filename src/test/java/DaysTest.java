/** Promises 32 to 34: what is said, days worked, each day; and them against days told hour by hour. */
public final class DaysTest {
    private static final Check CHECK = new Check("days");

    public static void main(String[] args) {
        said();
        daysByReadings();
        daysAfterTheEnd();
        daysOfLongHire();
        dayOf();
        for (int seed = 1; seed <= 60; seed++) {
            asToldHourByHour(seed);
        }
        CHECK.done();
    }

    private static void said() {
        Scene s = Scene.plain();
        HireYard y = s.yard;
        y.machine(0, 0, 0);
        y.order(0, 0, 2, 3, 8);
        CHECK.is("32: waits", y.said(0, 0, 1), Scene.NOT);
        s.promise(0);
        y.send(0);
        CHECK.is("32: not begun", y.said(0, 0, 1), Scene.NOT);
        s.pass(2);
        CHECK.is("32: begun", y.said(0, 59, 0), 1);
        CHECK.is("32: day 60", y.said(0, 60, 0), Scene.BAD);
        CHECK.is("32: day -1", y.said(0, -1, 0), Scene.BAD);
        CHECK.is("32: worked 2", y.said(0, 0, 2), Scene.BAD);
        CHECK.is("32: no order", y.said(1, 0, 0), Scene.BAD);
        CHECK.is("32: ahead of the day", y.said(0, 1, 0), 1);
        s.pass(30);
        CHECK.is("32: counted", y.dayOf(0, 0), 2);
        CHECK.is("32: counted as not", y.dayOf(0, 1), 3);
        y.fetch(0, 0);
        CHECK.is("32: done too", y.said(0, 1, 1), 1);
        CHECK.is("32: the last word counts", y.dayOf(0, 1), 2);
    }

    private static void expectDays(String what, Scene s, int all, int least, int most, int counted) {
        CHECK.row("33: " + what,
            new long[] {s.yard.days(0, 0), s.yard.days(0, 1), s.yard.days(0, 2), s.yard.days(0, 3)},
            all, least, most, counted);
    }

    private static void daysByReadings() {
        Scene s = Scene.hire();
        HireYard y = s.yard;
        expectDays("none yet", s, 0, 0, 0, 0);
        s.pass(1);
        expectDays("a part of a day", s, 1, 0, 1, 1);
        s.pass(23);
        expectDays("one day", s, 1, 0, 1, 1);
        y.read(0, 0);
        expectDays("surely not", s, 1, 0, 0, 0);
        y.said(0, 0, 1);
        expectDays("whatever is said", s, 1, 0, 0, 0);
        y.read(0, 1);
        expectDays("surely worked", s, 1, 1, 1, 1);
        y.said(0, 0, 0);
        expectDays("whatever is said", s, 1, 1, 1, 1);
        s.pass(30);
        y.read(0, 2);
        expectDays("three, the second perhaps, of the third one reading", s, 3, 1, 3, 3);
        y.said(0, 1, 0);
        expectDays("the second one not", s, 3, 1, 3, 2);
        s.pass(2);
        y.read(0, 2);
        expectDays("the third one perhaps", s, 3, 1, 3, 2);
        CHECK.is("33: what 4", y.days(0, 4), Scene.VOID);
        CHECK.is("33: what -1", y.days(0, -1), Scene.VOID);
        CHECK.is("33: no order", y.days(1, 0), Scene.VOID);
    }

    private static void daysAfterTheEnd() {
        Scene s = Scene.hire();
        HireYard y = s.yard;
        s.pass(40);
        y.read(0, 5);
        y.fetch(0, 0);
        expectDays("ended in the second", s, 2, 0, 2, 2);
        s.pass(100);
        expectDays("no more after the end", s, 2, 0, 2, 2);
        Scene late = Scene.hire();
        late.pass(40);
        late.yard.fetch(0, 0);
        late.pass(100);
        expectDays("no reading behind", late, 2, 0, 2, 2);
        late.yard.read(0, 0);
        expectDays("a reading behind the end tells of both", late, 2, 0, 0, 0);
        Scene none = Scene.hire();
        none.yard.fetch(0, 0);
        none.pass(100);
        expectDays("ended in hour 0", none, 0, 0, 0, 0);
    }

    private static void daysOfLongHire() {
        Scene s = Scene.hire();
        HireYard y = s.yard;
        for (int i = 0; i < 60; i++) {
            y.said(0, i, 0);
        }
        s.pass(24 * 61 + 1);
        expectDays("days from 60 on can't be said", s, 62, 0, 62, 2);
    }

    private static void dayOf() {
        Scene s = Scene.hire();
        HireYard y = s.yard;
        CHECK.is("34: none yet", y.dayOf(0, 0), Scene.BAD);
        s.pass(24);
        y.read(0, 3);
        s.pass(24);
        y.read(0, 3);
        s.pass(10);
        y.said(0, 2, 0);
        CHECK.is("34: surely worked", y.dayOf(0, 0), 1);
        CHECK.is("34: surely not", y.dayOf(0, 1), 0);
        CHECK.is("34: perhaps not", y.dayOf(0, 2), 3);
        CHECK.is("34: none such", y.dayOf(0, 3), Scene.BAD);
        CHECK.is("34: below 0", y.dayOf(0, -1), Scene.BAD);
        CHECK.is("34: no order", y.dayOf(1, 0), Scene.BAD);
        y.said(0, 2, 1);
        CHECK.is("34: perhaps worked", y.dayOf(0, 2), 2);
        y.order(0, 0, 58, 1, 1);
        CHECK.is("34: not begun", y.dayOf(1, 0), Scene.BAD);
    }

    /** Reads at odd hours, ends somewhere, and compares each day with what a table of all hours shows. */
    private static void asToldHourByHour(int seed) {
        Scene s = Scene.plain();
        HireYard y = s.yard;
        Lots lots = new Lots(seed);
        y.machine(0, 0, 7);
        int begin = lots.below(30), meter = 7;
        int[] readings = new int[400];
        java.util.Arrays.fill(readings, -1);
        readings[0] = 7;
        y.order(0, 0, begin, 60, 1);
        s.promise(0);
        y.send(0);
        int end = begin + lots.below(150), stop = end + lots.below(50);
        for (int hour = 0; hour <= stop; hour++) {
            if (lots.below(seed % 2 == 0 ? 9 : 25) == 0) {
                meter += lots.below(2);
                readings[hour] = y.read(0, meter);
            }
            if (hour == end) {
                y.fetch(0, 0);
            }
            y.hours(1);
        }
        int all = (end - begin + 23) / 24;
        CHECK.is("33: all, seed " + seed, y.days(0, 0), all);
        int sure = 0, most = 0;
        for (int i = 0; i < all; i++) {
            int from = begin + 24 * i, to = Math.min(end, from + 24);
            int due = shown(readings, from, to);
            CHECK.is("34: day " + i + " by hours, seed " + seed, y.dayOf(0, i), due);
            sure += due == 1 ? 1 : 0;
            most += due == 0 ? 0 : 1;
        }
        CHECK.is("33: least, seed " + seed, y.days(0, 1), sure);
        CHECK.is("33: most, seed " + seed, y.days(0, 2), most);
        CHECK.is("33: counted, seed " + seed, y.days(0, 3), most);
    }

    private static int shown(int[] readings, int from, int to) {
        int first = -1, last = -1, ahead = -1, behind = -1;
        for (int hour = 0; hour < readings.length; hour++) {
            if (readings[hour] >= 0) {
                if (hour >= from && hour <= to) {
                    first = first < 0 ? readings[hour] : first;
                    last = readings[hour];
                }
                ahead = hour <= from ? readings[hour] : ahead;
                behind = hour >= to && behind < 0 ? readings[hour] : behind;
            }
        }
        if (first != last) {
            return 1;
        }
        return ahead >= 0 && ahead == behind ? 0 : 2;
    }
}
