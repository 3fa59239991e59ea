/** Promises 1 to 6: a new object, towns, roads, hours, rain. */
public final class TownsTest {
    private static final Check CHECK = new Check("towns");

    public static void main(String[] args) {
        newObject();
        town();
        road();
        far();
        hours();
        rain();
        CHECK.done();
    }

    private static void newObject() {
        HireYard y = new HireYard();
        for (int what = 0; what <= 13; what++) {
            CHECK.is("1: count " + what, y.count(what), 0);
        }
        CHECK.is("1: no town", y.far(0, 0), Scene.BAD);
        CHECK.is("1: no machine", y.ofMachine(0, 0), Scene.VOID);
        CHECK.is("BAD", HireYard.BAD, -1);
        CHECK.is("NOT", HireYard.NOT, -2);
        CHECK.is("FULL", HireYard.FULL, -3);
        CHECK.is("BIG", HireYard.BIG, -4);
        CHECK.is("VOID", HireYard.VOID, -2000000000);
    }

    private static void town() {
        HireYard y = new HireYard();
        CHECK.is("2: yard 2", y.town(2), Scene.BAD);
        CHECK.is("2: yard -1", y.town(-1), Scene.BAD);
        for (int i = 0; i < 12; i++) {
            CHECK.is("2: town " + i, y.town(i % 2), i);
        }
        CHECK.is("2: thirteenth", y.town(1), Scene.FULL);
        CHECK.is("2: BAD ahead of FULL", y.town(2), Scene.BAD);
        CHECK.is("2: how many", y.count(0), 12);
        y.type(1000, 1, 0, 0);
        CHECK.is("2: no yard at 0", y.machine(0, 0, 0), Scene.BAD);
        CHECK.is("2: a yard at 1", y.machine(0, 1, 0), 0);
    }

    private static void road() {
        HireYard y = new HireYard();
        y.town(0);
        y.town(0);
        CHECK.is("3: first", y.road(0, 1, 300), 300);
        CHECK.is("3: more does not count", y.road(1, 0, 300), 300);
        CHECK.is("3: less counts", y.road(1, 0, 7), 7);
        CHECK.is("3: more again", y.road(0, 1, 8), 7);
        CHECK.is("3: least", y.road(0, 1, 1), 1);
        CHECK.is("3: both ways", y.far(1, 0), 1);
        CHECK.is("3: 0 miles", y.road(0, 1, 0), Scene.BAD);
        CHECK.is("3: 301 miles", y.road(0, 1, 301), Scene.BAD);
        CHECK.is("3: one and the same", y.road(1, 1, 5), Scene.BAD);
        CHECK.is("3: no such town", y.road(0, 2, 5), Scene.BAD);
        CHECK.is("3: below 0", y.road(-1, 0, 5), Scene.BAD);
    }

    private static void far() {
        HireYard y = new HireYard();
        for (int i = 0; i < 5; i++) {
            y.town(0);
        }
        CHECK.is("4: itself", y.far(3, 3), 0);
        CHECK.is("4: no way", y.far(0, 1), Scene.NOT);
        y.road(0, 1, 100);
        y.road(1, 2, 100);
        y.road(0, 2, 250);
        CHECK.is("4: by another", y.far(0, 2), 200);
        CHECK.is("4: the road told counts for the road", y.road(0, 2, 300), 250);
        y.road(3, 4, 10);
        CHECK.is("4: still none", y.far(0, 4), Scene.NOT);
        y.road(2, 3, 10);
        CHECK.is("4: joined", y.far(0, 4), 220);
        CHECK.is("4: joined back", y.far(4, 0), 220);
        y.road(0, 4, 1);
        CHECK.is("4: round the other side", y.far(0, 2), 21);
        CHECK.is("4: and on", y.far(1, 3), 110);
        y.road(0, 4, 1);
        CHECK.is("4: BAD", y.far(0, 5), Scene.BAD);
        CHECK.is("4: BAD", y.far(-1, 0), Scene.BAD);
    }

    private static void hours() {
        HireYard y = new HireYard();
        CHECK.is("5: 0", y.hours(0), Scene.BAD);
        CHECK.is("5: 241", y.hours(241), Scene.BAD);
        CHECK.is("5: below 0", y.hours(-5), Scene.BAD);
        CHECK.is("5: 1", y.hours(1), 1);
        for (int i = 1; i < 100; i++) {
            y.hours(240);
        }
        CHECK.is("5: late", y.count(5), 23761);
        CHECK.is("5: beyond the last", y.hours(239), Scene.BAD);
        CHECK.is("5: stays", y.count(5), 23761);
        CHECK.is("5: the last", y.hours(238), 23999);
        CHECK.is("5: none left", y.hours(1), Scene.BAD);
        CHECK.is("5: wraps", y.hours(Integer.MAX_VALUE), Scene.BAD);
    }

    private static void rain() {
        HireYard y = new HireYard();
        CHECK.is("6: dry at first", y.rain(999, 1), 0);
        CHECK.is("6: was", y.rain(999, 0), 1);
        CHECK.is("6: was not", y.rain(999, 0), 0);
        CHECK.is("6: day 0", y.rain(0, 1), 0);
        CHECK.is("6: day 1000", y.rain(1000, 1), Scene.BAD);
        CHECK.is("6: day -1", y.rain(-1, 1), Scene.BAD);
        CHECK.is("6: is 2", y.rain(0, 2), Scene.BAD);
        CHECK.is("6: unchanged", y.rain(0, 1), 1);
    }
}
