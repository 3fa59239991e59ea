/** Promises 7 to 18: types, machines, looks, breaks, readings, tracks, theft. */
public final class MachinesTest {
    private static final Check CHECK = new Check("machines");

    public static void main(String[] args) {
        type();
        instead();
        mark();
        machine();
        link();
        ofMachine();
        look();
        broken();
        brokenFull();
        sold();
        stolen();
        read();
        readFull();
        track();
        theft();
        theftSeenFirst();
        theftOfLoads();
        CHECK.done();
    }

    private static void type() {
        HireYard y = new HireYard();
        int[][] wrong = {
            {999, 1, 0, 0}, {100000, 1, 0, 0}, {-1000, 1, 0, 0}, {1000, 0, 0, 0}, {1000, 10000, 0, 0},
            {1000, 1, -1, 0}, {1000, 1, 8, 0}, {1000, 1, 989, 0}, {1000, 1, 998, 0}, {1000, 1, 1000, 0},
            {1000, 1, 0, -1}, {1000, 1, 0, 100000}};
        for (int[] w : wrong) {
            CHECK.is("7: " + w[0] + " " + w[1] + " " + w[2] + " " + w[3], y.type(w[0], w[1], w[2], w[3]), Scene.BAD);
        }
        CHECK.is("7: least", y.type(1000, 1, 0, 0), 0);
        CHECK.is("7: most", y.type(99999, 9999, 997, 99999), 1);
        for (int i = 2; i < 15; i++) {
            CHECK.is("7: type " + i, y.type(20100, 5, 17, 3), i);
        }
        CHECK.is("7: sixteenth", y.type(20100, 5, 17, 3), Scene.FULL);
        CHECK.is("7: BAD ahead of FULL", y.type(0, 5, 17, 3), Scene.BAD);
        CHECK.is("7: how many", y.count(1), 15);
        Scene s = Scene.plain();
        CHECK.is("7: fuel and paper", s.yard.type(1000, 1, 58, 0), Scene.BAD);
        CHECK.is("7: fuel and paper", s.yard.type(1000, 1, 52, 0), 1);
        s.yard.machine(1, 0, 0);
        s.yard.customer(0, 4);
        s.yard.customer(0, 251);
        s.yard.order(1, 1, 0, 1, 1);
        s.yard.order(2, 1, 0, 1, 1);
        CHECK.is("7: paper 2", s.yard.why(0, 0), 0);
        CHECK.is("7: all papers but 2", s.yard.why(0, 1), 3);
    }

    private static void instead() {
        Scene s = Scene.plain();
        HireYard y = s.yard;
        y.type(10000, 100, 0, 0);
        y.machine(1, 0, 0);
        y.order(0, 0, 0, 1, 1);
        y.order(0, 1, 0, 1, 1);
        CHECK.is("8: not at first", y.why(0, 0), 2);
        CHECK.is("8: was not", y.instead(1, 0, 1), 0);
        CHECK.is("8: may go", y.why(0, 0), 0);
        CHECK.is("8: its own", y.why(0, 1), 0);
        y.machine(0, 0, 0);
        CHECK.is("8: not the other way", y.why(1, 1), 2);
        CHECK.is("8: was", y.instead(1, 0, 0), 1);
        CHECK.is("8: not any more", y.why(0, 0), 2);
        CHECK.is("8: one and the same", y.instead(1, 1, 1), Scene.BAD);
        CHECK.is("8: no type", y.instead(2, 1, 1), Scene.BAD);
        CHECK.is("8: no other", y.instead(1, 2, 1), Scene.BAD);
        CHECK.is("8: below 0", y.instead(1, -1, 1), Scene.BAD);
        CHECK.is("8: is", y.instead(1, 0, 2), Scene.BAD);
    }

    private static void mark() {
        HireYard y = Scene.plain().yard;
        CHECK.is("9: 0 at first", y.mark(0, 15, 9999), 0);
        CHECK.is("9: was", y.mark(0, 15, 0), 9999);
        CHECK.is("9: another mark", y.mark(0, 0, 5), 0);
        CHECK.is("9: mark 16", y.mark(0, 16, 5), Scene.BAD);
        CHECK.is("9: mark -1", y.mark(0, -1, 5), Scene.BAD);
        CHECK.is("9: cost", y.mark(0, 0, 10000), Scene.BAD);
        CHECK.is("9: cost below 0", y.mark(0, 0, -1), Scene.BAD);
        CHECK.is("9: no type", y.mark(1, 0, 5), Scene.BAD);
        CHECK.is("9: unchanged", y.mark(0, 0, 5), 5);
    }

    private static void machine() {
        Scene s = Scene.plain();
        HireYard y = s.yard;
        y.town(0);
        CHECK.is("10: no yard", y.machine(0, 1, 0), Scene.BAD);
        CHECK.is("10: no town", y.machine(0, 2, 0), Scene.BAD);
        CHECK.is("10: no type", y.machine(1, 0, 0), Scene.BAD);
        CHECK.is("10: meter", y.machine(0, 0, 100000), Scene.BAD);
        CHECK.is("10: meter below 0", y.machine(0, 0, -1), Scene.BAD);
        for (int i = 0; i < 90; i++) {
            CHECK.is("10: machine " + i, y.machine(0, 0, 99999 - i), i);
        }
        CHECK.is("10: FULL", y.machine(0, 0, 0), Scene.FULL);
        CHECK.is("10: BAD ahead of FULL", y.machine(0, 1, 0), Scene.BAD);
        CHECK.row("10: as made", s.ofMachine(89), 0, 99910, 0, 0, 0, 99910, -1, -1, 0, -1);
    }

    private static void link() {
        HireYard y = Scene.plain().yard;
        y.machine(0, 0, 0);
        CHECK.is("11: no machine", y.link(1, 0, 1), Scene.BAD);
        CHECK.is("11: owner 10", y.link(0, 10, 1), Scene.BAD);
        CHECK.is("11: owner -1", y.link(0, -1, 1), Scene.BAD);
        CHECK.is("11: rate 0", y.link(0, 0, 0), Scene.BAD);
        CHECK.is("11: rate 10000", y.link(0, 0, 10000), Scene.BAD);
        for (int i = 1; i <= 5; i++) {
            CHECK.is("11: link " + i, y.link(0, i % 2 == 0 ? 0 : 9, i == 2 ? 1 : 9999), i);
        }
        CHECK.is("11: FULL", y.link(0, 9, 9999), Scene.FULL);
        CHECK.is("11: BAD ahead of FULL", y.link(0, 10, 1), Scene.BAD);
        CHECK.is("11: how many", y.ofMachine(0, 8), 5);
    }

    private static void ofMachine() {
        Scene s = Scene.row(3, 45);
        HireYard y = s.yard;
        y.type(10100, 100, 0, 0);
        y.type(10100, 100, 0, 0);
        y.customer(1, 255);
        y.machine(1, 0, 30);
        y.order(0, 1, 5, 1, 1);
        CHECK.row("12: at a yard", s.ofMachine(0), 1, 30, 0, 0, 0, 30, -1, -1, 0, 70);
        s.promise(0);
        CHECK.row("12: promised", s.ofMachine(0), 1, 30, 0, 0, 0, 30, -1, 0, 0, 70);
        y.send(0);
        CHECK.row("12: on a load", s.ofMachine(0), 1, 30, 1, 1, 0, 30, 2, 0, 0, 70);
        s.pass(1);
        y.read(0, 99);
        CHECK.row("12: still on it", s.ofMachine(0), 1, 99, 1, 1, 0, 99, 2, 0, 0, 1);
        s.pass(1);
        CHECK.row("12: there, hire not begun", s.ofMachine(0), 1, 99, 2, 1, 0, 99, -1, 0, 0, 1);
        CHECK.is("12: out", y.count(9), 1);
        s.pass(4);
        y.read(0, 130);
        y.link(0, 3, 5);
        y.fetch(0, 2);
        CHECK.row("12: back on a load", s.ofMachine(0), 1, 130, 1, 2, 0, 130, 8, -1, 1, 0);
        CHECK.is("12: on loads", y.count(10), 1);
        s.pass(2);
        y.read(0, 140);
        CHECK.row("12: back", s.ofMachine(0), 1, 140, 0, 2, 0, 140, -1, -1, 1, 0);
        y.look(0, 9);
        CHECK.row("12: in look", s.ofMachine(0), 1, 140, 0, 2, 1, 0, 17, -1, 1, 100);
        y.gone(0, 4);
        CHECK.row("12: stolen", s.ofMachine(0), 1, 140, 3, -1, 4, 0, -1, -1, 1, 100);
        CHECK.is("12: what 10", y.ofMachine(0, 10), Scene.VOID);
        CHECK.is("12: what -1", y.ofMachine(0, -1), Scene.VOID);
        CHECK.is("12: no machine", y.ofMachine(1, 0), Scene.VOID);
        CHECK.is("12: machine -1", y.ofMachine(-1, 0), Scene.VOID);
    }

    private static void look() {
        Scene s = Scene.plain();
        HireYard y = s.yard;
        y.type(10050, 100, 0, 0);
        y.machine(1, 0, 50);
        y.order(0, 1, 300, 1, 1);
        CHECK.is("13: due", y.ofMachine(0, 9), 0);
        CHECK.is("13: due, why", y.why(0, 0), 4);
        CHECK.is("13: 0 hours", y.look(0, 0), Scene.BAD);
        CHECK.is("13: 100 hours", y.look(0, 100), Scene.BAD);
        CHECK.is("13: no machine", y.look(1, 1), Scene.BAD);
        CHECK.is("13: begins", y.look(0, 99), 1);
        CHECK.is("13: in look", y.look(0, 1), Scene.NOT);
        CHECK.is("13: since its beginning", y.ofMachine(0, 5), 0);
        y.read(0, 52);
        CHECK.is("13: by the meter at its beginning", y.ofMachine(0, 5), 2);
        CHECK.is("13: keeps it in", y.why(0, 0), 1);
        s.pass(98);
        CHECK.is("13: not done yet", y.ofMachine(0, 4), 1);
        s.pass(1);
        CHECK.is("13: done", y.ofMachine(0, 4), 0);
        CHECK.is("13: may go", y.why(0, 0), 0);
        s.promise(0);
        CHECK.is("13: promised", y.look(0, 1), Scene.NOT);
        y.off(0);
        y.broken(0, 1);
        CHECK.is("13: broken", y.look(0, 1), Scene.NOT);
        y.broken(0, 0);
        y.gone(0, 3);
        CHECK.is("13: sold", y.look(0, 1), Scene.NOT);
    }

    private static void broken() {
        Scene s = Scene.plain();
        HireYard y = s.yard;
        y.machine(0, 0, 0);
        y.order(0, 0, 300, 1, 1);
        CHECK.is("14: no machine", y.broken(1, 1), Scene.BAD);
        CHECK.is("14: is 2", y.broken(0, 2), Scene.BAD);
        CHECK.is("14: is so", y.broken(0, 0), Scene.NOT);
        CHECK.is("14: breaks", y.broken(0, 1), 1);
        CHECK.is("14: is so", y.broken(0, 1), Scene.NOT);
        CHECK.is("14: state", y.ofMachine(0, 4), 2);
        CHECK.is("14: why", y.why(0, 0), 1);
        CHECK.is("14: no more", y.broken(0, 0), 1);
        CHECK.is("14: why", y.why(0, 0), 0);
        y.look(0, 1);
        CHECK.is("14: in look", y.broken(0, 1), Scene.NOT);
        CHECK.is("14: in look", y.broken(0, 0), Scene.NOT);
        s.pass(1);
        s.promise(0);
        CHECK.is("14: promised", y.broken(0, 1), 1);
        CHECK.is("14: not sent so", y.send(0), Scene.NOT);
        CHECK.is("14: still promised", y.ofOrder(0, 5), 1);
        y.broken(0, 0);
        CHECK.is("14: sent", y.send(0), 1);
        CHECK.is("14: out", y.broken(0, 1), 1);
        y.gone(0, 4);
        CHECK.is("14: stolen", y.broken(0, 1), Scene.NOT);
        CHECK.is("14: stolen", y.broken(0, 0), Scene.NOT);
    }

    private static void brokenFull() {
        HireYard y = Scene.plain().yard;
        y.machine(0, 0, 0);
        y.machine(0, 0, 0);
        for (int i = 0; i < 100; i++) {
            CHECK.is("14: span", y.broken(0, 1), 1);
            CHECK.is("14: end", y.broken(0, 0), 1);
            CHECK.is("14: span", y.broken(1, 1), 1);
            CHECK.is("14: end", i < 99 ? y.broken(1, 0) : 1, 1);
        }
        CHECK.is("14: NOT ahead of FULL", y.broken(1, 1), Scene.NOT);
        CHECK.is("14: FULL", y.broken(0, 1), Scene.FULL);
        CHECK.is("14: ready still", y.ofMachine(0, 4), 0);
        CHECK.is("14: the end of one is none more", y.broken(1, 0), 1);
        CHECK.is("14: FULL", y.broken(1, 1), Scene.FULL);
    }

    private static void sold() {
        Scene s = Scene.plain();
        HireYard y = s.yard;
        y.machine(0, 0, 0);
        y.order(0, 0, 0, 1, 1);
        CHECK.is("15: state 2", y.gone(0, 2), Scene.BAD);
        CHECK.is("15: state 5", y.gone(0, 5), Scene.BAD);
        CHECK.is("15: no machine", y.gone(1, 3), Scene.BAD);
        s.promise(0);
        CHECK.is("15: promised", y.gone(0, 3), Scene.NOT);
        y.send(0);
        CHECK.is("15: out", y.gone(0, 3), Scene.NOT);
        y.fetch(0, 0);
        y.broken(0, 1);
        CHECK.is("15: broken", y.gone(0, 3), Scene.NOT);
        y.broken(0, 0);
        y.look(0, 1);
        CHECK.is("15: in look", y.gone(0, 3), Scene.NOT);
        s.pass(1);
        CHECK.is("15: sold", y.gone(0, 3), 1);
        CHECK.is("15: state", y.ofMachine(0, 4), 3);
        CHECK.is("15: nowhere", y.ofMachine(0, 2), 3);
        CHECK.is("15: again", y.gone(0, 3), Scene.NOT);
        CHECK.is("15: stolen then", y.gone(0, 4), Scene.NOT);
        CHECK.is("15: not stolen", y.theft(0, 0), Scene.NOT);
    }

    private static void stolen() {
        Scene s = Scene.row(2, 30);
        HireYard y = s.yard;
        y.type(10000, 100, 0, 0);
        y.customer(1, 255);
        for (int i = 0; i < 4; i++) {
            y.machine(0, 0, 0);
            y.order(0, 0, 2 + i, 9, 1);
        }
        s.promise(0, 1, 2, 3);
        CHECK.is("15: promised one", y.gone(3, 4), 1);
        CHECK.row("15: its order waits", s.ofOrder(3), 0, 0, 5, 9, 1, 0, -1, -1, -1, 0);
        y.send(0);
        y.send(1);
        y.send(2);
        CHECK.is("15: on a load", y.gone(2, 4), 1);
        CHECK.row("15: its order waits", s.ofOrder(2), 0, 0, 4, 9, 1, 0, -1, -1, -1, 0);
        CHECK.is("15: no order for it", y.ofMachine(2, 7), -1);
        CHECK.is("15: it may be listed again", y.list(2), 1);
        s.pass(2);
        CHECK.is("15: hire not begun", y.gone(1, 4), 1);
        CHECK.is("15: waits", y.ofOrder(1, 5), 0);
        CHECK.is("15: hire begins now", y.gone(0, 4), 1);
        CHECK.row("15: done", s.ofOrder(0), 0, 0, 2, 9, 1, 3, 0, 2, 2, 0);
        CHECK.is("15: no days", y.days(0, 0), 0);
        CHECK.is("15: again", y.gone(0, 4), Scene.NOT);
        CHECK.is("15: sold then", y.gone(0, 3), Scene.NOT);
    }

    private static void read() {
        Scene s = Scene.plain();
        HireYard y = s.yard;
        y.machine(0, 0, 10);
        CHECK.is("16: less", y.read(0, 9), Scene.BAD);
        CHECK.is("16: no machine", y.read(1, 9), Scene.BAD);
        CHECK.is("16: in place of the first", y.read(0, 12), 12);
        CHECK.is("16: a told one", y.count(7), 1);
        CHECK.is("16: less than that", y.read(0, 11), Scene.BAD);
        CHECK.is("16: in its place", y.read(0, 13), 13);
        CHECK.is("16: one an hour", y.count(7), 1);
        s.pass(1);
        CHECK.is("16: another hour", y.read(0, 13), 13);
        CHECK.is("16: one more", y.count(7), 2);
        CHECK.is("16: most", y.read(0, 99999), 99999);
        CHECK.is("16: too much", y.read(0, 100000), Scene.BAD);
        CHECK.is("16: meter", y.ofMachine(0, 1), 99999);
        y.gone(0, 3);
        CHECK.is("16: BAD ahead of NOT", y.read(0, 5), Scene.BAD);
        CHECK.is("16: nowhere", y.read(0, 99999), Scene.NOT);
    }

    private static void readFull() {
        Scene s = Scene.plain();
        HireYard y = s.yard;
        for (int i = 0; i < 40; i++) {
            y.machine(0, 0, 0);
        }
        for (int turn = 0; turn < 10; turn++) {
            s.pass(1);
            for (int i = 0; i < 40; i++) {
                y.read(i, turn);
            }
        }
        CHECK.is("16: all", y.count(7), 400);
        CHECK.is("16: of this hour still", y.read(0, 50), 50);
        s.pass(1);
        CHECK.is("16: FULL", y.read(0, 50), Scene.FULL);
        CHECK.is("16: unchanged", y.read(0, 49), Scene.BAD);
        CHECK.is("16: all", y.count(7), 400);
    }

    private static void track() {
        HireYard y = Scene.plain().yard;
        y.machine(0, 0, 0);
        y.gone(0, 3);
        CHECK.is("17: no machine", y.track(1, 0), Scene.BAD);
        CHECK.is("17: no town", y.track(0, 1), Scene.BAD);
        for (int i = 1; i <= 300; i++) {
            CHECK.is("17: track", y.track(0, 0), i);
        }
        CHECK.is("17: FULL", y.track(0, 0), Scene.FULL);
        CHECK.is("17: BAD ahead of FULL", y.track(0, 1), Scene.BAD);
        CHECK.is("17: how many", y.count(8), 300);
    }

    private static void expectTheft(String what, Scene s, int machine, int from, int to, int town) {
        CHECK.is("18: " + what + ", from", s.yard.theft(machine, 0), from);
        CHECK.is("18: " + what + ", to", s.yard.theft(machine, 1), to);
        CHECK.is("18: " + what + ", town", s.yard.theft(machine, 2), town);
    }

    private static void theft() {
        Scene s = Scene.row(3, 60);
        HireYard y = s.yard;
        y.type(10000, 100, 0, 0);
        s.pass(5);
        y.machine(0, 1, 0);
        y.machine(0, 1, 0);
        y.machine(0, 1, 0);
        CHECK.is("18: not stolen", y.theft(0, 0), Scene.NOT);
        CHECK.is("18: what 3", y.theft(0, 3), Scene.BAD);
        CHECK.is("18: what -1", y.theft(0, -1), Scene.BAD);
        CHECK.is("18: no machine", y.theft(3, 0), Scene.BAD);
        s.pass(1);
        y.track(0, 1);
        s.pass(1);
        y.track(0, 1);
        y.track(0, 0);
        y.track(1, 0);
        s.pass(1);
        y.track(0, 1);
        s.pass(1);
        y.gone(0, 4);
        y.gone(1, 4);
        y.gone(2, 4);
        y.track(2, 0);
        expectTheft("seen there till 7", s, 0, 7, 7, 1);
        expectTheft("seen elsewhere alone", s, 1, 5, 7, 1);
        expectTheft("in the hour of telling", s, 2, 5, 9, 1);
        s.pass(1);
        y.track(2, 1);
        y.track(1, 1);
        expectTheft("a later track does not count", s, 2, 5, 9, 1);
        expectTheft("nor that", s, 1, 5, 7, 1);
    }

    private static void theftSeenFirst() {
        Scene s = Scene.row(2, 60);
        HireYard y = s.yard;
        y.type(10000, 100, 0, 0);
        y.machine(0, 0, 0);
        s.pass(3);
        y.track(0, 0);
        s.pass(4);
        y.gone(0, 4);
        expectTheft("the first track of all there", s, 0, 3, 7, 0);
        y.machine(0, 1, 0);
        y.track(1, 0);
        s.pass(4);
        y.track(1, 1);
        y.gone(1, 4);
        expectTheft("elsewhere in the hour since when", s, 1, 7, 7, 1);
        HireYard first = Scene.row(2, 60).yard;
        first.type(10000, 100, 0, 0);
        first.machine(0, 1, 0);
        first.hours(2);
        first.track(0, 0);
        first.hours(2);
        first.gone(0, 4);
        CHECK.is("18: the first track of all elsewhere", first.theft(0, 1), 2);
    }

    private static void theftOfLoads() {
        Scene s = Scene.row(3, 60);
        HireYard y = s.yard;
        y.type(10000, 100, 0, 0);
        y.customer(2, 255);
        for (int i = 0; i < 3; i++) {
            y.machine(0, 0, 0);
            y.order(0, 0, 10, 1, 1);
        }
        y.track(2, 2);
        y.track(0, 2);
        y.track(1, 1);
        y.track(2, 1);
        s.promise(0, 1, 2);
        s.pass(1);
        y.send(0);
        y.send(1);
        y.send(2);
        s.pass(1);
        y.track(1, 2);
        y.gone(1, 4);
        expectTheft("on a load", s, 1, 2, 2, 2);
        s.pass(1);
        y.track(0, 1);
        s.pass(2);
        y.track(0, 2);
        y.track(2, 2);
        y.track(0, 1);
        s.pass(1);
        y.gone(0, 4);
        expectTheft("at the customer's since 5", s, 0, 5, 5, 2);
        s.pass(4);
        y.fetch(2, 1);
        s.pass(1);
        y.track(2, 1);
        y.broken(2, 1);
        s.pass(3);
        y.gone(2, 4);
        expectTheft("fetched, there since 12", s, 2, 12, 14, 1);
    }
}
