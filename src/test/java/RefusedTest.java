import java.util.function.Supplier;
import java.util.function.ToIntFunction;

/**
 * "What is answered so changes nothing": each answer by which a call may be refused, for each number that it
 * takes and each state, on one of two like objects; and of several such answers the one named first.
 */
public final class RefusedTest {
    private static final Check CHECK = new Check("refused");
    private static final int BAD = HireYard.BAD, NOT = HireYard.NOT, FULL = HireYard.FULL, VOID = HireYard.VOID;

    private interface Asked {
        int of(HireYard y, int x);
    }

    public static void main(String[] args) {
        badTowns();
        badTypes();
        badMachines();
        badStates();
        badOrders();
        badLoads();
        badDays();
        badTape();
        badBills();
        badDamage();
        badChains();
        notRoads();
        notStates();
        notLists();
        notLoads();
        notBegun();
        notTold();
        full();
        fullLists();
        fullByMany();
        badFirst();
        badFirstOfOrders();
        badAheadOfFull();
        notAheadOfFull();
        CHECK.done();
    }

    private static void refused(String what, ToIntFunction<HireYard> call, int due) {
        Twins.refused(CHECK, what, Scene::busy, call, due);
    }

    /** Numbers just below, just above, and as far off as can be. */
    private static void outside(String what, int least, int most, int due, Asked asked) {
        for (int x : new int[] {least - 1, most + 1, Integer.MIN_VALUE, Integer.MAX_VALUE}) {
            refused(what + " " + x, y -> asked.of(y, x), due);
        }
    }

    /** These, and the least and the most number, which are taken. */
    private static void range(String what, int least, int most, int due, Asked asked) {
        outside(what, least, most, due, asked);
        for (int x : new int[] {least, most}) {
            CHECK.is(what + " takes " + x, asked.of(Scene.busy().yard, x) == due ? 0 : 1, 1);
        }
    }

    private static void badTowns() {
        range("2: yard", 0, 1, BAD, HireYard::town);
        range("3: a", 0, 3, BAD, (y, x) -> y.road(x, 1, 5));
        range("3: b", 0, 3, BAD, (y, x) -> y.road(1, x, 5));
        range("3: miles", 1, 300, BAD, (y, x) -> y.road(0, 3, x));
        refused("3: one and the same", y -> y.road(3, 3, 5), BAD);
        range("4: a", 0, 3, BAD, (y, x) -> y.far(x, 1));
        range("4: b", 0, 3, BAD, (y, x) -> y.far(1, x));
        range("5: n", 1, 240, BAD, HireYard::hours);
        range("6: day", 0, 999, BAD, (y, x) -> y.rain(x, 1));
        range("6: is", 0, 1, BAD, (y, x) -> y.rain(9, x));
    }

    private static void badTypes() {
        range("7: what", 1000, 99999, BAD, (y, x) -> y.type(x, 1, 0, 0));
        range("7: rate", 1, 9999, BAD, (y, x) -> y.type(1000, x, 0, 0));
        range("7: needs", 0, 997, BAD, (y, x) -> y.type(1000, 1, x, 0));
        range("7: worth", 0, 99999, BAD, (y, x) -> y.type(1000, 1, 0, x));
        for (int needs : new int[] {8, 9, 18, 19, 508, 989}) {
            refused("7: paper " + needs, y -> y.type(1000, 1, needs, 0), BAD);
        }
        range("8: type", 0, 2, BAD, (y, x) -> y.instead(x, 1, 1));
        range("8: other", 0, 2, BAD, (y, x) -> y.instead(1, x, 0));
        range("8: is", 0, 1, BAD, (y, x) -> y.instead(0, 1, x));
        refused("8: one and the same", y -> y.instead(1, 1, 1), BAD);
        range("9: type", 0, 2, BAD, (y, x) -> y.mark(x, 3, 5));
        range("9: mark", 0, 15, BAD, (y, x) -> y.mark(0, x, 5));
        range("9: cost", 0, 9999, BAD, (y, x) -> y.mark(0, 3, x));
    }

    private static void badMachines() {
        range("10: type", 0, 2, BAD, (y, x) -> y.machine(x, 0, 5));
        range("10: town", 0, 3, BAD, (y, x) -> y.machine(0, x, 5));
        refused("10: no yard", y -> y.machine(0, 2, 5), BAD);
        range("10: meter", 0, 99999, BAD, (y, x) -> y.machine(0, 0, x));
        range("11: machine", 0, 9, BAD, (y, x) -> y.link(x, 1, 1));
        range("11: owner", 0, 9, BAD, (y, x) -> y.link(9, x, 1));
        range("11: rate", 1, 9999, BAD, (y, x) -> y.link(9, 1, x));
        range("12: machine", 0, 9, VOID, (y, x) -> y.ofMachine(x, 0));
        range("12: what", 0, 9, VOID, (y, x) -> y.ofMachine(9, x));
        range("17: machine", 0, 9, BAD, (y, x) -> y.track(x, 0));
        range("17: town", 0, 3, BAD, (y, x) -> y.track(9, x));
        range("18: machine", 0, 9, BAD, (y, x) -> y.theft(x, 0));
        range("18: what", 0, 2, BAD, (y, x) -> y.theft(6, x));
    }

    private static void badStates() {
        range("13: machine", 0, 9, BAD, (y, x) -> y.look(x, 5));
        range("13: n", 1, 99, BAD, (y, x) -> y.look(9, x));
        range("14: machine", 0, 9, BAD, (y, x) -> y.broken(x, 1));
        range("14: is", 0, 1, BAD, (y, x) -> y.broken(9, x));
        range("15: machine", 0, 9, BAD, (y, x) -> y.gone(x, 4));
        range("15: state", 3, 4, BAD, (y, x) -> y.gone(9, x));
        range("16: machine", 0, 9, BAD, (y, x) -> y.read(x, 99999));
        range("16: meter", 51, 99999, BAD, (y, x) -> y.read(9, x));
    }

    private static void badOrders() {
        range("19: town", 0, 3, BAD, (y, x) -> y.customer(x, 1));
        range("19: papers", 0, 255, BAD, (y, x) -> y.customer(0, x));
        range("20: customer", 0, 3, BAD, (y, x) -> y.order(x, 0, 90, 1, 1));
        range("20: type", 0, 2, BAD, (y, x) -> y.order(0, x, 90, 1, 1));
        range("20: from", 32, 23999, BAD, (y, x) -> y.order(0, 0, x, 1, 1));
        range("20: days", 1, 60, BAD, (y, x) -> y.order(0, 0, 90, x, 1));
        range("20: work", 1, 24, BAD, (y, x) -> y.order(0, 0, 90, 1, x));
        range("21: machine", 0, 9, BAD, (y, x) -> y.why(x, 0));
        range("21: order", 0, 7, BAD, (y, x) -> y.why(0, x));
        range("22: order", 0, 7, BAD, HireYard::list);
        range("26: machine", 0, 9, BAD, HireYard::stop);
        range("31: order", 0, 7, VOID, (y, x) -> y.ofOrder(x, 0));
        range("31: what", 0, 9, VOID, (y, x) -> y.ofOrder(0, x));
    }

    private static void badLoads() {
        outside("27: before any", 0, 0, BAD, HireYard::stopped);
        refused("27: before any", y -> y.stopped(0), BAD);
        Twins.refused(CHECK, "24: before any", Scene::plain, HireYard::miles, BAD);
        range("28: order", 0, 7, BAD, HireYard::send);
        range("29: order", 0, 7, BAD, (y, x) -> y.fetch(x, 0));
        range("29: town", 0, 3, BAD, (y, x) -> y.fetch(0, x));
        refused("29: no yard", y -> y.fetch(0, 2), BAD);
        range("30: order", 0, 7, BAD, HireYard::off);
    }

    private static void badDays() {
        range("32: order", 0, 7, BAD, (y, x) -> y.said(x, 0, 1));
        range("32: i", 0, 59, BAD, (y, x) -> y.said(0, x, 1));
        range("32: worked", 0, 1, BAD, (y, x) -> y.said(0, 0, x));
        outside("33: order", 0, 7, VOID, (y, x) -> y.days(x, 0));
        range("33: what", 0, 3, VOID, (y, x) -> y.days(0, x));
        outside("34: order", 0, 7, BAD, (y, x) -> y.dayOf(x, 0));
        range("34: i", 0, 1, BAD, (y, x) -> y.dayOf(0, x));
    }

    private static void badTape() {
        range("36: n", 0, 6, BAD, HireYard::end);
        range("37: use", 0, 1, BAD, (y, x) -> y.terms(x, 0));
        range("37: from", 0, 999, BAD, (y, x) -> y.terms(0, x));
    }

    private static void badBills() {
        range("38: terms", 0, 1, VOID, (y, x) -> y.gives(x, 0, 5));
        outside("38: order", 0, 7, VOID, (y, x) -> y.gives(0, x, 5));
        range("38: worked", 0, 999, VOID, (y, x) -> y.gives(0, 0, x));
        outside("39: order", 0, 7, VOID, (y, x) -> y.bill(x, 5, 0));
        range("39: k", 0, 999, VOID, (y, x) -> y.bill(0, x, 0));
        range("39: what", 0, 5, VOID, (y, x) -> y.bill(0, 5, x));
        range("40: order", 0, 7, BAD, (y, x) -> y.next(x, 5));
        range("40: n", 1, 60, BAD, (y, x) -> y.next(0, x));
    }

    private static void badDamage() {
        range("41: order", 0, 7, BAD, (y, x) -> y.looked(x, 0, 5));
        range("41: which", 0, 1, BAD, (y, x) -> y.looked(2, x, 5));
        range("41: marks", 0, 65535, BAD, (y, x) -> y.looked(2, 0, x));
        range("42: order", 0, 7, BAD, (y, x) -> y.fuel(x, 0, 5));
        range("42: which", 0, 1, BAD, (y, x) -> y.fuel(2, x, 5));
        range("42: litres", 0, 999, BAD, (y, x) -> y.fuel(2, 0, x));
        range("43: order", 0, 7, BAD, (y, x) -> y.harm(x, 0));
        range("43: what", 0, 2, BAD, (y, x) -> y.harm(1, x));
    }

    private static void badChains() {
        outside("44: order", 0, 7, VOID, (y, x) -> y.share(x, 0));
        range("44: i", 0, 1, VOID, (y, x) -> y.share(0, x));
        outside("45: machine", 0, 9, BAD, (y, x) -> y.chain(x, 0, 0));
        range("45: i", 0, 1, BAD, (y, x) -> y.chain(0, x, 0));
        range("45: i, would it lose", 0, 1, BAD, (y, x) -> y.chain(0, x, 1));
        range("45: what", 0, 1, BAD, (y, x) -> y.chain(0, 0, x));
        outside("46: machine", 0, 9, BAD, (y, x) -> y.rank(x, 0));
        range("46: i", 0, 1, BAD, (y, x) -> y.rank(0, x));
        range("47: type", 0, 2, BAD, (y, x) -> y.idle(x, 0, 0));
        range("47: town", 0, 3, BAD, (y, x) -> y.idle(0, x, 1));
        range("47: what", 0, 1, BAD, (y, x) -> y.idle(0, 0, x));
        range("48: type", 0, 2, BAD, HireYard::move);
        range("49: what", 0, 13, BAD, HireYard::count);
        refused("44: own, none such", y -> y.share(1, 0), VOID);
        refused("45: own, none such", y -> y.chain(9, 0, 0), BAD);
        refused("46: own, none such", y -> y.rank(9, 0), BAD);
    }

    private static void notRoads() {
        refused("4: no way", y -> y.far(0, 3), NOT);
        refused("4: no way back", y -> y.far(3, 2), NOT);
        refused("48: none of this type", y -> y.move(2), NOT);
    }

    private static void notStates() {
        String[] states = {"out", "", "promised", "in look", "broken", "sold", "stolen", "on a load"};
        for (int machine : new int[] {0, 2, 3, 4, 5, 6, 7}) {
            refused("13: " + states[machine], y -> y.look(machine, 5), NOT);
            refused("15: sold, but " + states[machine], y -> y.gone(machine, 3), NOT);
        }
        refused("14: is so", y -> y.broken(4, 1), NOT);
        refused("14: is not", y -> y.broken(9, 0), NOT);
        for (int machine : new int[] {3, 5, 6}) {
            refused("14: broken, but " + states[machine], y -> y.broken(machine, 1), NOT);
            refused("14: no more, but " + states[machine], y -> y.broken(machine, 0), NOT);
        }
        for (int machine : new int[] {5, 6}) {
            refused("15: stolen, but " + states[machine], y -> y.gone(machine, 4), NOT);
            refused("16: nowhere, " + states[machine], y -> y.read(machine, 5), NOT);
        }
        for (int machine : new int[] {0, 1, 2, 3, 4, 5, 7, 9}) {
            refused("18: not stolen " + machine, y -> y.theft(machine, 0), NOT);
        }
    }

    private static Scene emptyList() {
        Scene s = Scene.busy();
        s.yard.best();
        return s;
    }

    private static Scene promisedBroken() {
        Scene s = Scene.busy();
        s.yard.broken(8, 1);
        return s;
    }

    private static Scene promisedElsewhere() {
        Scene s = Scene.busy();
        s.promise(6);
        return s;
    }

    private static Scene noStops() {
        Scene s = Scene.busy();
        s.yard.round();
        return s;
    }

    private static void notLists() {
        for (int order : new int[] {0, 1, 2, 3, 4, 7}) {
            refused("22: does not wait " + order, y -> y.list(order), NOT);
        }
        refused("22: is on it", y -> y.list(5), NOT);
        Twins.refused(CHECK, "23: the list is empty", RefusedTest::emptyList, HireYard::best, NOT);
        Twins.refused(CHECK, "25: no stops", RefusedTest::noStops, HireYard::round, NOT);
        Twins.refused(CHECK, "27: one stop, no more", RefusedTest::noStops, y -> y.stopped(1), BAD);
        for (int machine : new int[] {0, 1, 3, 4, 5, 6, 7, 9}) {
            refused("26: not promised " + machine, y -> y.stop(machine), NOT);
        }
        refused("26: is one", y -> y.stop(2), NOT);
        CHECK.is("26: promised at yard 1", promisedElsewhere().yard.ofOrder(5, 6), 1);
        Twins.refused(CHECK, "26: in another town", RefusedTest::promisedElsewhere, y -> y.stop(1), NOT);
    }

    private static void notLoads() {
        for (int order : new int[] {0, 1, 3, 4, 5, 6}) {
            refused("28: not promised " + order, y -> y.send(order), NOT);
        }
        Twins.refused(CHECK, "28: not ready", RefusedTest::promisedBroken, y -> y.send(7), NOT);
        for (int order : new int[] {1, 2, 3, 4, 5}) {
            refused("29: not out, or not begun " + order, y -> y.fetch(order, 0), NOT);
        }
        refused("29: no way", y -> y.fetch(0, 3), NOT);
        for (int order : new int[] {0, 1, 3, 4}) {
            refused("30: neither waits nor is promised " + order, y -> y.off(order), NOT);
        }
    }

    private static void notBegun() {
        for (int order : new int[] {2, 3, 4, 5}) {
            refused("32: not begun " + order, y -> y.said(order, 0, 0), NOT);
            refused("33: not begun " + order, y -> y.days(order, 0), VOID);
            refused("34: not begun " + order, y -> y.dayOf(order, 0), BAD);
            refused("38: not begun " + order, y -> y.gives(0, order, 1), VOID);
            refused("39: not begun " + order, y -> y.bill(order, 9, 5), VOID);
            refused("40: not begun " + order, y -> y.next(order, 1), NOT);
            refused("44: not begun " + order, y -> y.share(order, 0), VOID);
        }
        refused("40: none less", y -> y.next(0, 1), NOT);
    }

    private static void notTold() {
        for (int order : new int[] {4, 5}) {
            refused("41: out, neither promised nor out " + order, y -> y.looked(order, 0, 1), NOT);
            refused("42: out, neither promised nor out " + order, y -> y.fuel(order, 0, 1), NOT);
        }
        for (int order : new int[] {0, 2, 3, 4, 5}) {
            refused("41: in, not done " + order, y -> y.looked(order, 1, 1), NOT);
            refused("42: in, not done " + order, y -> y.fuel(order, 1, 1), NOT);
        }
        for (int which = 0; which < 2; which++) {
            int told = which;
            refused("41: told " + told, y -> y.looked(1, told, 1), NOT);
            refused("42: told " + told, y -> y.fuel(1, told, 1), NOT);
        }
    }

    /** A busy scene in which a call has been answered so often that it is FULL. */
    private static Supplier<Scene> often(int times, ToIntFunction<HireYard> call) {
        return () -> {
            Scene s = Scene.busy();
            for (int i = 0; i < times; i++) {
                CHECK.is("not FULL yet", call.applyAsInt(s.yard) >= 0 ? 1 : 0, 1);
            }
            return s;
        };
    }

    private static void expectFull(String what, int times, ToIntFunction<HireYard> call) {
        Twins.refused(CHECK, what, often(times, call), call, FULL);
    }

    private static void full() {
        expectFull("2: towns", 8, y -> y.town(1));
        expectFull("7: types", 12, y -> y.type(1000, 1, 0, 0));
        expectFull("10: machines", 80, y -> y.machine(0, 0, 7));
        expectFull("11: links", 3, y -> y.link(0, 9, 9));
        expectFull("17: tracks", 298, y -> y.track(6, 2));
        expectFull("19: customers", 26, y -> y.customer(0, 1));
        expectFull("20: orders", 92, y -> y.order(0, 0, 90, 1, 1));
        expectFull("35: bytes", 9, y -> y.feed(1, 2, 3, 4, 5));
    }

    private static Scene fullTerms() {
        Scene s = Scene.busy();
        for (int i = 2; i < 16; i++) {
            CHECK.is("37: terms", s.terms(i % 2, i, "days*" + i), i);
        }
        s.write("days*");
        return s;
    }

    private static Scene fullList() {
        Scene s = Scene.busy();
        for (int i = 8; i < 13; i++) {
            s.yard.order(0, 0, 90, 1, 1);
            CHECK.is("22: listed", s.yard.list(i), i - 6);
        }
        return s;
    }

    private static Scene fullStops() {
        Scene s = Scene.busy();
        for (int i = 8; i < 12; i++) {
            s.yard.machine(0, 0, 9);
            s.yard.order(3, 0, 60, 1, 1);
            s.promise(i);
            CHECK.is("26: stop", s.yard.stop(s.yard.ofOrder(i, 6)), i - 6);
        }
        return s;
    }

    private static void fullLists() {
        Twins.refused(CHECK, "37: terms", RefusedTest::fullTerms, y -> y.terms(0, 0), FULL);
        Twins.refused(CHECK, "22: list", RefusedTest::fullList, y -> y.list(6), FULL);
        Twins.refused(CHECK, "26: stops", RefusedTest::fullStops, y -> y.stop(8), FULL);
    }

    private static Scene fullSpans() {
        Scene s = Scene.plain();
        s.yard.machine(0, 0, 0);
        s.yard.machine(0, 0, 0);
        for (int i = 0; i < 200; i++) {
            s.yard.broken(0, 1);
            s.yard.broken(0, 0);
        }
        return s;
    }

    private static Scene fullReadings() {
        Scene s = Scene.plain();
        for (int i = 0; i < 20; i++) {
            s.yard.machine(0, 0, 3);
        }
        for (int turn = 1; turn <= 20; turn++) {
            s.yard.hours(1);
            for (int i = 0; i < 20; i++) {
                s.yard.read(i, 3 + turn);
            }
        }
        return s;
    }

    private static void fullByMany() {
        CHECK.is("16: 400 readings", fullReadings().yard.count(7), 400);
        Twins.refused(CHECK, "14: spans", RefusedTest::fullSpans, y -> y.broken(1, 1), FULL);
        Twins.refused(CHECK, "16: readings", () -> later(fullReadings()), y -> y.read(5, 500), FULL);
    }

    private static Scene later(Scene s) {
        s.yard.hours(1);
        return s;
    }

    private static void badFirst() {
        refused("13: BAD ahead of NOT", y -> y.look(3, 0), BAD);
        refused("13: BAD ahead of NOT", y -> y.look(5, 100), BAD);
        refused("14: BAD ahead of NOT", y -> y.broken(5, 2), BAD);
        refused("15: BAD ahead of NOT", y -> y.gone(5, 5), BAD);
        refused("16: BAD ahead of NOT, above", y -> y.read(6, 100000), BAD);
        refused("16: BAD ahead of NOT, below", y -> y.read(6, -1), BAD);
        refused("18: BAD ahead of NOT", y -> y.theft(9, 3), BAD);
    }

    private static void badFirstOfOrders() {
        refused("29: BAD ahead of NOT, no yard", y -> y.fetch(2, 2), BAD);
        refused("29: BAD ahead of NOT, no town", y -> y.fetch(4, 4), BAD);
        refused("32: BAD ahead of NOT, i", y -> y.said(2, 60, 0), BAD);
        refused("32: BAD ahead of NOT, worked", y -> y.said(2, 0, 2), BAD);
        refused("40: BAD ahead of NOT", y -> y.next(2, 61), BAD);
        refused("41: BAD ahead of NOT, which", y -> y.looked(5, 2, 0), BAD);
        refused("41: BAD ahead of NOT, marks", y -> y.looked(1, 1, 65536), BAD);
        refused("42: BAD ahead of NOT, which", y -> y.fuel(5, 2, 0), BAD);
        refused("42: BAD ahead of NOT, litres", y -> y.fuel(1, 1, 1000), BAD);
    }

    private static void expectBad(String what, int times, ToIntFunction<HireYard> call, ToIntFunction<HireYard> bad) {
        Twins.refused(CHECK, what + ": BAD ahead of FULL", often(times, call), bad, BAD);
    }

    private static void badAheadOfFull() {
        expectBad("2", 8, y -> y.town(1), y -> y.town(2));
        expectBad("7", 12, y -> y.type(1000, 1, 0, 0), y -> y.type(1000, 1, 8, 0));
        expectBad("10", 80, y -> y.machine(0, 0, 7), y -> y.machine(0, 2, 7));
        expectBad("11", 3, y -> y.link(0, 9, 9), y -> y.link(0, 10, 9));
        expectBad("17", 298, y -> y.track(6, 2), y -> y.track(6, 4));
        expectBad("19", 26, y -> y.customer(0, 1), y -> y.customer(0, 256));
        expectBad("20", 92, y -> y.order(0, 0, 90, 1, 1), y -> y.order(0, 0, 31, 1, 1));
        Twins.refused(CHECK, "22: BAD ahead of FULL", RefusedTest::fullList, y -> y.list(13), BAD);
        Twins.refused(CHECK, "26: BAD ahead of FULL", RefusedTest::fullStops, y -> y.stop(14), BAD);
        Twins.refused(CHECK, "37: BAD ahead of FULL, use", RefusedTest::fullTerms, y -> y.terms(2, 0), BAD);
        Twins.refused(CHECK, "37: BAD ahead of FULL, from", RefusedTest::fullTerms, y -> y.terms(0, 1000), BAD);
        Twins.refused(CHECK, "14: BAD ahead of FULL", RefusedTest::fullSpans, y -> y.broken(1, 2), BAD);
        Twins.refused(CHECK, "16: BAD ahead of FULL", () -> later(fullReadings()), y -> y.read(5, 0), BAD);
    }

    private static Scene stolenFull() {
        Scene s = later(fullReadings());
        s.yard.gone(5, 4);
        return s;
    }

    private static void notAheadOfFull() {
        Twins.refused(CHECK, "14: NOT ahead of FULL", RefusedTest::fullSpans, y -> y.broken(1, 0), NOT);
        Twins.refused(CHECK, "16: NOT ahead of FULL", RefusedTest::stolenFull, y -> y.read(5, 500), NOT);
        Twins.refused(CHECK, "22: NOT ahead of FULL, on it", RefusedTest::fullList, y -> y.list(5), NOT);
        Twins.refused(CHECK, "22: NOT ahead of FULL, waits not", RefusedTest::fullList, y -> y.list(0), NOT);
        Twins.refused(CHECK, "26: NOT ahead of FULL, is one", RefusedTest::fullStops, y -> y.stop(2), NOT);
        Twins.refused(CHECK, "26: NOT ahead of FULL, not promised", RefusedTest::fullStops, y -> y.stop(0), NOT);
    }
}
