/** Promises 41 to 43: looks out and in, fuel, damage. */
public final class DamageTest {
    private static final Check CHECK = new Check("damage");

    public static void main(String[] args) {
        wrong();
        looked();
        fuel();
        waitsAgain();
        sentAnew();
        harm();
        CHECK.done();
    }

    private static void wrong() {
        HireYard y = Scene.hire().yard;
        CHECK.is("41: no order", y.looked(1, 0, 0), Scene.BAD);
        CHECK.is("41: which 2", y.looked(0, 2, 0), Scene.BAD);
        CHECK.is("41: which -1", y.looked(0, -1, 0), Scene.BAD);
        CHECK.is("41: marks", y.looked(0, 0, 65536), Scene.BAD);
        CHECK.is("41: marks below 0", y.looked(0, 0, -1), Scene.BAD);
        CHECK.is("42: no order", y.fuel(1, 0, 0), Scene.BAD);
        CHECK.is("42: which 2", y.fuel(0, 2, 0), Scene.BAD);
        CHECK.is("42: litres", y.fuel(0, 0, 1000), Scene.BAD);
        CHECK.is("42: litres below 0", y.fuel(0, 0, -1), Scene.BAD);
        CHECK.is("43: no order", y.harm(1, 0), Scene.BAD);
        CHECK.is("43: what 3", y.harm(0, 3), Scene.BAD);
        CHECK.is("43: what -1", y.harm(0, -1), Scene.BAD);
        CHECK.is("42: most", y.fuel(0, 0, 999), 1);
        CHECK.is("41: most", y.looked(0, 0, 65535), 1);
    }

    private static void looked() {
        Scene s = Scene.plain();
        HireYard y = s.yard;
        y.machine(0, 0, 0);
        y.order(0, 0, 0, 1, 1);
        CHECK.is("41: waits", y.looked(0, 0, 1), Scene.NOT);
        s.promise(0);
        CHECK.is("41: in, promised", y.looked(0, 1, 1), Scene.NOT);
        CHECK.is("41: out, promised", y.looked(0, 0, 0), 1);
        CHECK.is("41: once", y.looked(0, 0, 1), Scene.NOT);
        y.send(0);
        CHECK.is("41: in, out", y.looked(0, 1, 1), Scene.NOT);
        y.fetch(0, 0);
        CHECK.is("41: in, done", y.looked(0, 1, 1), 1);
        CHECK.is("41: once", y.looked(0, 1, 1), Scene.NOT);
        CHECK.is("43: marks", y.harm(0, 0), 1);
        y.order(0, 0, 0, 1, 1);
        y.off(1);
        CHECK.is("41: gone", y.looked(1, 0, 1), Scene.NOT);
        CHECK.is("41: gone", y.looked(1, 1, 1), Scene.NOT);
    }

    private static void fuel() {
        Scene s = Scene.plain();
        HireYard y = s.yard;
        y.machine(0, 0, 0);
        y.order(0, 0, 0, 1, 1);
        CHECK.is("42: waits", y.fuel(0, 0, 1), Scene.NOT);
        s.promise(0);
        y.send(0);
        CHECK.is("42: out", y.fuel(0, 0, 0), 1);
        CHECK.is("42: told", y.fuel(0, 0, 9), Scene.NOT);
        CHECK.is("42: in, out", y.fuel(0, 1, 9), Scene.NOT);
        y.fetch(0, 0);
        CHECK.is("42: in", y.fuel(0, 1, 9), 1);
        CHECK.is("42: told", y.fuel(0, 1, 9), Scene.NOT);
        CHECK.is("43: more came back", y.harm(0, 2), 0);
    }

    private static void waitsAgain() {
        Scene s = Scene.plain();
        HireYard y = s.yard;
        y.machine(0, 0, 0);
        y.machine(0, 0, 0);
        y.order(0, 0, 5, 1, 1);
        s.promise(0);
        y.looked(0, 0, 1);
        y.fuel(0, 0, 60);
        y.gone(0, 4);
        s.promise(0);
        CHECK.is("41: promised anew", y.ofOrder(0, 6), 1);
        CHECK.is("41: once for an order", y.looked(0, 0, 1), Scene.NOT);
        CHECK.is("42: once for an order", y.fuel(0, 0, 1), Scene.NOT);
        y.send(0);
        s.pass(5);
        y.fetch(0, 0);
        y.looked(0, 1, 3);
        y.fuel(0, 1, 10);
        CHECK.is("43: marks", y.harm(0, 0), 2);
        CHECK.is("43: litres", y.harm(0, 2), 50);
    }

    private static void sentAnew() {
        Scene s = Scene.plain();
        HireYard y = s.yard;
        y.machine(0, 0, 0);
        y.order(0, 0, 0, 1, 1);
        y.order(0, 0, 0, 1, 1);
        s.promise(0);
        y.send(0);
        y.fetch(0, 0);
        s.promise(1);
        CHECK.is("42: promised anew, not sent", y.fuel(0, 1, 1), 1);
        y.send(1);
        CHECK.is("41: sent anew", y.looked(0, 1, 1), Scene.NOT);
        y.gone(0, 4);
        CHECK.is("41: done by theft", y.looked(1, 1, 1), 1);
        CHECK.is("41: still sent anew", y.looked(0, 1, 1), Scene.NOT);
    }

    private static void harm() {
        Scene s = Scene.plain();
        HireYard y = s.yard;
        y.type(10000, 1, 0, 0);
        y.instead(1, 0, 1);
        y.machine(1, 0, 0);
        y.order(0, 0, 0, 1, 1);
        s.promise(0);
        for (int mark = 0; mark < 16; mark++) {
            y.mark(0, mark, 9999);
            y.mark(1, mark, mark + 1);
        }
        CHECK.is("43: nothing told", y.harm(0, 0), 0);
        y.looked(0, 0, 0x8004);
        y.fuel(0, 0, 100);
        y.send(0);
        y.fetch(0, 0);
        CHECK.is("43: one look alone", y.harm(0, 0), 0);
        CHECK.is("43: one look alone", y.harm(0, 1), 0);
        CHECK.is("43: fuel out alone", y.harm(0, 2), 0);
        y.looked(0, 1, 0xC00F);
        y.fuel(0, 1, 31);
        CHECK.is("43: new marks", y.harm(0, 0), 0x400B);
        CHECK.is("43: by the machine's own type", y.harm(0, 1), 15 + 4 + 2 + 1);
        CHECK.is("43: litres", y.harm(0, 2), 69);
        y.order(0, 0, 0, 1, 1);
        s.promise(1);
        y.send(1);
        y.fetch(1, 0);
        y.looked(1, 1, 7);
        y.fuel(1, 1, 7);
        CHECK.is("43: in alone", y.harm(1, 0), 0);
        CHECK.is("43: in alone", y.harm(1, 1), 0);
        CHECK.is("43: in alone", y.harm(1, 2), 0);
    }
}
