/** Promises 44 to 49: shares, chains, ranks, idle ones, moves, counts. */
public final class ChainsTest {
    private static final Check CHECK = new Check("chains");

    public static void main(String[] args) {
        share();
        chainAndRank();
        idle();
        wantedInTime();
        move();
        moveEdges();
        count();
        CHECK.done();
    }

    private static void share() {
        Scene s = Scene.hire();
        HireYard y = s.yard;
        CHECK.is("44: no link", y.share(0, 0), Scene.VOID);
        y.link(0, 1, 50);
        y.link(0, 2, 80);
        y.link(0, 3, 9999);
        s.pass(24 * 4);
        y.said(0, 1, 0);
        CHECK.row("44: by days as counted", new long[] {y.share(0, 0), y.share(0, 1), y.share(0, 2)},
            -90, -29757, 29997);
        CHECK.is("44: none such", y.share(0, 3), Scene.VOID);
        CHECK.is("44: below 0", y.share(0, -1), Scene.VOID);
        CHECK.is("44: no order", y.share(1, 0), Scene.VOID);
        y.order(0, 0, 96, 1, 1);
        CHECK.is("44: not begun", y.share(1, 0), Scene.VOID);
    }

    private static void chainAndRank() {
        HireYard y = Scene.plain().yard;
        y.machine(0, 0, 0);
        CHECK.is("45: own", y.chain(0, 0, 0), Scene.BAD);
        CHECK.is("46: own", y.rank(0, 0), Scene.BAD);
        int[] rates = {50, 50, 51, 40};
        for (int i = 0; i < 4; i++) {
            y.link(0, 9 - i, rates[i]);
        }
        CHECK.row("45: owners", new long[] {y.chain(0, 0, 0), y.chain(0, 1, 0), y.chain(0, 2, 0), y.chain(0, 3, 0)},
            9, 8, 7, 6);
        CHECK.row("45: losers", new long[] {y.chain(0, 0, 1), y.chain(0, 1, 1), y.chain(0, 2, 1), y.chain(0, 3, 1)},
            0, 1, 0, 0);
        CHECK.row("46: ranks", new long[] {y.rank(0, 0), y.rank(0, 1), y.rank(0, 2), y.rank(0, 3)}, 6, 7, 8, 9);
        CHECK.is("45: link 4", y.chain(0, 4, 0), Scene.BAD);
        CHECK.is("45: link -1", y.chain(0, -1, 0), Scene.BAD);
        CHECK.is("45: link 4 would lose", y.chain(0, 4, 1), Scene.BAD);
        CHECK.is("45: link -1 would lose", y.chain(0, -1, 1), Scene.BAD);
        CHECK.is("45: what 2", y.chain(0, 0, 2), Scene.BAD);
        CHECK.is("45: no machine", y.chain(1, 0, 0), Scene.BAD);
        CHECK.is("46: link 4", y.rank(0, 4), Scene.BAD);
        CHECK.is("46: link -1", y.rank(0, -1), Scene.BAD);
        CHECK.is("46: no machine", y.rank(1, 0), Scene.BAD);
    }

    private static void idle() {
        Scene s = Scene.row(2, 30);
        HireYard y = s.yard;
        y.town(0);
        y.type(1000, 1, 0, 0);
        y.type(1000, 1, 0, 0);
        y.customer(1, 1);
        for (int i = 0; i < 6; i++) {
            y.machine(0, 0, 0);
        }
        y.machine(1, 0, 0);
        CHECK.is("47: all", y.idle(0, 0, 0), 6);
        CHECK.is("47: of another type", y.idle(1, 0, 0), 1);
        CHECK.is("47: in another town", y.idle(0, 1, 0), 0);
        y.look(0, 5);
        y.broken(1, 1);
        y.gone(2, 3);
        y.order(0, 0, 1, 1, 1);
        y.order(0, 0, 1, 1, 1);
        s.promise(0, 1);
        CHECK.is("47: one is left", y.idle(0, 0, 0), 1);
        y.send(0);
        s.pass(1);
        y.off(1);
        CHECK.is("47: one more", y.idle(0, 0, 0), 2);
        CHECK.is("47: out is not idle", y.idle(0, 1, 0), 0);
        y.fetch(0, 1);
        CHECK.is("47: back", y.idle(0, 1, 0), 1);
        CHECK.is("47: no yard", y.idle(0, 2, 0), 0);
        CHECK.is("47: no type", y.idle(2, 0, 0), Scene.BAD);
        CHECK.is("47: no town", y.idle(0, 3, 0), Scene.BAD);
        CHECK.is("47: what 2", y.idle(0, 0, 2), Scene.BAD);
        CHECK.is("47: what -1", y.idle(0, 0, -1), Scene.BAD);
    }

    private static void wantedInTime() {
        Scene s = Scene.row(2, 30);
        HireYard y = s.yard;
        y.type(1000, 1, 0, 0);
        y.type(1000, 1, 0, 0);
        y.customer(0, 1);
        y.customer(1, 1);
        y.order(0, 0, 9, 1, 1);
        y.order(0, 0, 9, 1, 1);
        y.order(0, 1, 9, 1, 1);
        y.order(1, 0, 9, 1, 1);
        y.off(0);
        CHECK.is("47: wanted, of any state", y.idle(0, 0, 1), 2);
        CHECK.is("47: of another type", y.idle(1, 0, 1), 1);
        CHECK.is("47: in another town", y.idle(0, 1, 1), 1);
        s.pass(719);
        CHECK.is("47: 719 hours ago", y.idle(0, 0, 1), 2);
        y.order(0, 0, 800, 1, 1);
        s.pass(1);
        CHECK.is("47: 720 hours ago", y.idle(0, 0, 1), 1);
    }

    private static void move() {
        Scene s = Scene.row(4, 30);
        HireYard y = s.yard;
        y.town(0);
        y.type(1000, 1, 0, 0);
        CHECK.is("48: neither", y.move(0), Scene.NOT);
        CHECK.is("48: no type", y.move(1), Scene.BAD);
        CHECK.is("48: type -1", y.move(-1), Scene.BAD);
        for (int town = 0; town < 5; town++) {
            y.customer(town, 1);
        }
        y.machine(0, 1, 0);
        CHECK.is("48: none wanted", y.move(0), Scene.NOT);
        y.order(4, 0, 0, 1, 1);
        CHECK.is("48: wanted where no yard is", y.move(0), Scene.NOT);
        y.order(3, 0, 0, 1, 1);
        CHECK.is("48: from 1 to 3", y.move(0), 103);
        y.machine(0, 2, 0);
        CHECK.is("48: of several the least", y.move(0), 103);
        y.machine(0, 2, 0);
        CHECK.is("48: most idle", y.move(0), 203);
        y.order(2, 0, 0, 1, 1);
        y.order(0, 0, 0, 1, 1);
        CHECK.is("48: less wanted", y.move(0), 100);
        y.order(3, 0, 0, 1, 1);
        CHECK.is("48: most wanted", y.move(0), 103);
    }

    private static void moveEdges() {
        HireYard y = Scene.row(2, 30).yard;
        y.type(1000, 1, 0, 0);
        y.customer(0, 1);
        y.customer(1, 1);
        y.order(0, 0, 0, 1, 1);
        CHECK.is("48: none idle", y.move(0), Scene.NOT);
        y.machine(0, 1, 0);
        y.order(1, 0, 0, 1, 1);
        CHECK.is("48: as many wanted as idle", y.move(0), Scene.NOT);
        y.machine(0, 1, 0);
        CHECK.is("48: from 1 to 0", y.move(0), 100);
        y.machine(0, 0, 0);
        y.machine(0, 0, 0);
        y.order(1, 0, 0, 1, 1);
        y.order(1, 0, 0, 1, 1);
        CHECK.is("48: from 0 to 1", y.move(0), 1);
    }

    private static void count() {
        Scene s = Scene.row(3, 30);
        HireYard y = s.yard;
        y.type(1000, 1, 0, 0);
        y.type(1000, 1, 0, 0);
        y.customer(1, 1);
        for (int i = 0; i < 4; i++) {
            y.machine(0, 0, 0);
        }
        for (int i = 0; i < 6; i++) {
            y.order(0, 0, 1, 1, 1);
        }
        s.terms(0, 0, "1");
        s.write("12");
        s.promise(0, 1, 2, 3);
        y.off(5);
        y.send(0);
        y.send(1);
        y.send(2);
        CHECK.is("49: on loads", y.count(10), 3);
        CHECK.is("49: none out", y.count(9), 0);
        y.track(0, 0);
        s.pass(1);
        y.read(0, 1);
        y.fetch(1, 0);
        y.gone(2, 4);
        long[] got = new long[14];
        for (int what = 0; what < 14; what++) {
            got[what] = y.count(what);
        }
        CHECK.row("49: what", got, 3, 2, 4, 1, 6, 1, 1, 1, 1, 1, 1, 2, 1, 2);
        y.fetch(0, 0);
        CHECK.is("49: order 0 done too", y.count(13), 3);
        CHECK.is("49: what 14", y.count(14), Scene.BAD);
        CHECK.is("49: what -1", y.count(-1), Scene.BAD);
    }
}
