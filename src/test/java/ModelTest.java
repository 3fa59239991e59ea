/** Runs by lot of 500 calls, each answer against that of the second writing of the document (Model). */
public final class ModelTest {
    private static final Check CHECK = new Check("model");
    private static final int CALLS = 500, RUNS = 2000;
    private static final String[] TEXTS = {"days*rate", "from 3 up weeks*300+least(rest*rate,300);all*50", "harm+fuel*2",
        "rain*10+broken*most(1,worth/(over+1))", "hours*7-over", "own*100+sub*10+rest", "from 1 to 2 900-days*100;1000-all",
        "500/days+(((hours)))*3", "from 5 up 3 ; from 2 to 4 7;9", "harm*fuel*worth*1000", "1+", "from 1", "days days"};
    /** Of the last three the place of the fault. */
    private static final int[] FAULTS = {2, 6, 5};

    private final Lots lots;
    private final HireYard yard = new HireYard();
    private final Model model = new Model();
    private final String name;
    private int calls;
    /** The text on the tape as it is told next. */
    private int text = -1;

    private ModelTest(int seed) {
        lots = new Lots(seed);
        name = "seed " + seed;
    }

    public static void main(String[] args) {
        for (int seed = 1; seed <= RUNS; seed++) {
            ModelTest t = new ModelTest(seed);
            t.found();
            while (t.calls < CALLS) {
                t.step();
            }
        }
        CHECK.done();
    }

    private int due(String call, int got, int due) {
        calls++;
        CHECK.is(name + ", call " + calls + ", " + call, got, due);
        return due;
    }

    private int below(int bound) {
        return lots.below(bound);
    }

    /** A number mostly from 0 on and below a bound, now and then beside that. */
    private int near(int bound) {
        return below(12) == 0 ? below(2) == 0 ? -1 : bound : below(Math.max(1, bound));
    }

    private int aTown() {
        return near(model.count(0));
    }

    private int aType() {
        return near(model.count(1));
    }

    private int aMachine() {
        return near(model.count(2));
    }

    private int anOrder() {
        int all = model.count(4);
        return below(3) == 0 ? all - 1 - below(3) : near(all);
    }

    /** Mostly one in a state, if there is one. */
    private int anOrder(int state) {
        int all = model.count(4), first = below(Math.max(1, all));
        for (int i = 0; i < all && below(20) > 0; i++) {
            if (model.ofOrder((first + i) % all, 5) == state) {
                return (first + i) % all;
            }
        }
        return anOrder();
    }

    /** Mostly one whose hire has begun. */
    private int aHire() {
        int all = model.count(4), first = below(Math.max(1, all));
        for (int i = 0; i < all && below(20) > 0; i++) {
            if (model.days((first + i) % all, 0) >= 0) {
                return (first + i) % all;
            }
        }
        return anOrder();
    }

    private int flag() {
        return below(20) == 0 ? 2 : below(2);
    }

    private void found() {
        int towns = 2 + below(3);
        for (int i = 0; i < towns; i++) {
            int miles = 1 + below(100);
            town(i == 0 || below(4) > 0 ? 1 : 0);
            if (i > 0 && below(9) > 0) {
                due("road", yard.road(i - 1, i, miles), model.road(i - 1, i, miles));
            }
        }
        for (int i = 0; i < 2; i++) {
            type();
            customer();
            customer();
        }
        instead();
        instead();
        for (int i = 0; i < 12; i++) {
            machine();
            mark(aType(), near(16), below(200));
        }
        for (int i = below(9); i > 0; i--) {
            link();
        }
    }

    private void step() {
        int sort = below(100);
        if (sort < 30) {
            stepOfCourse();
        } else if (sort < 55) {
            ask(below(17));
        } else if (sort < 72) {
            askOfMachines(below(12));
        } else if (sort < 97) {
            tell(below(18));
        } else {
            foundMore(below(8));
        }
    }

    /** What brings hires about. */
    private void stepOfCourse() {
        switch (below(9)) {
            case 0: case 1: deal(); break;
            case 2: order(); break;
            case 3: listAll(); break;
            case 4: send(); break;
            case 5: hours(); break;
            case 6: fetch(); break;
            case 7: read(); break;
            default: terms();
        }
    }

    private void foundMore(int sort) {
        switch (sort) {
            case 0: town(flag()); break;
            case 1: road(); break;
            case 2: type(); break;
            case 3: customer(); break;
            case 4: case 5: fewMachines(); break;
            case 6: instead(); break;
            default: link();
        }
    }

    private void town(int yardIs) {
        due("town " + yardIs, yard.town(yardIs), model.town(yardIs));
    }

    /** Few, as the model tries each way of them. */
    private void fewMachines() {
        if (model.count(2) < 9) {
            machine();
        }
    }

    private void road() {
        int a = aTown(), b = aTown(), miles = below(15) == 0 ? 301 : 1 + below(150);
        due("road " + a + " " + b + " " + miles, yard.road(a, b, miles), model.road(a, b, miles));
    }

    private void type() {
        int what = 1000 * near(90) + (below(3) > 0 ? 0 : 60 + below(200));
        int needs = 10 * below(50) + below(below(9) == 0 ? 9 : 1);
        int rate = 1 + below(500), worth = near(9000);
        due("type", yard.type(what, rate, needs, worth), model.type(what, rate, needs, worth));
    }

    private void customer() {
        int town = aTown(), papers = below(3) == 0 ? near(256) : 255;
        due("customer", yard.customer(town, papers), model.customer(town, papers));
    }

    private void instead() {
        int type = aType(), other = below(3) > 0 ? 1 - type : aType();
        int is = below(3) > 0 ? 1 : flag();
        due("instead", yard.instead(type, other, is), model.instead(type, other, is));
    }

    private void machine() {
        int type = aType(), town = aTown(), meter = below(60);
        due("machine", yard.machine(type, town, meter), model.machine(type, town, meter));
    }

    private void link() {
        int machine = aMachine(), owner = near(10), rate = 1 + below(60);
        due("link", yard.link(machine, owner, rate), model.link(machine, owner, rate));
    }

    /** Orders come, get machines and are sent, all but some of them. */
    private void deal() {
        for (int i = 1 + below(2); i > 0; i--) {
            order();
            listLatest();
        }
        due("best", yard.best(), model.best());
        for (int i = below(3); i > 0; i--) {
            send();
        }
    }

    private void listLatest() {
        int order = model.count(4) - 1;
        due("list " + order, yard.list(order), model.list(order));
    }

    private void order() {
        if (model.count(12) > 9 && below(3) > 0) {
            return;
        }
        int customer = near(model.count(3)), type = aType();
        int from = model.count(5) + (below(9) == 0 ? -1 : 3) + below(25);
        int days = below(9) == 0 ? near(61) : 1 + below(4), work = 1 + below(6);
        due("order", yard.order(customer, type, from, days, work), model.order(customer, type, from, days, work));
    }

    private void listAll() {
        for (int i = 1 + below(4); i > 0; i--) {
            int order = anOrder(0);
            due("list " + order, yard.list(order), model.list(order));
        }
        due("best", yard.best(), model.best());
        due("miles", yard.miles(), model.miles());
    }

    private void send() {
        int order = anOrder(1);
        due("send " + order, yard.send(order), model.send(order));
    }

    private void fetch() {
        int order = anOrder(2), town = aTown();
        due("fetch " + order, yard.fetch(order, town), model.fetch(order, town));
    }

    private void hours() {
        int n = below(12) == 0 ? below(243) : 1 + below(below(3) == 0 ? 30 : 4);
        due("hours " + n, yard.hours(n), model.hours(n));
    }

    private void read() {
        int machine = aMachine(), meter = model.ofMachine(machine, 1) + below(8) * below(3) - (below(20) == 0 ? 1 : 0);
        due("read " + machine + " " + meter, yard.read(machine, meter), model.read(machine, meter));
    }

    private void write() {
        due("end 0", yard.end(0), model.end(0));
        text = below(TEXTS.length);
        String t = TEXTS[text];
        for (int i = 0; i < t.length(); i += 20) {
            int[] x = new int[5];
            for (int j = 0; j < 20; j++) {
                int sign = i + j < t.length() ? t.charAt(i + j) : below(256);
                x[j / 4] |= sign << 24 - j % 4 * 8;
            }
            due("feed", yard.feed(x[0], x[1], x[2], x[3], x[4]), model.feed(x[0], x[1], x[2], x[3], x[4]));
        }
        due("end", yard.end(t.length()), model.end(t.length()));
    }

    private void terms() {
        if (below(3) > 0) {
            return;
        }
        if (text < 0 || model.count(11) == 0) {
            write();
        }
        int use = flag(), from = below(4) == 0 ? near(1000) : 0, late = text - (TEXTS.length - FAULTS.length);
        int fault = late < 0 ? -1 : FAULTS[late];
        due("terms", yard.terms(use, from), model.terms(use, from, fault));
    }

    private void ask(int sort) {
        int order = aHire();
        switch (sort) {
            case 0: case 1: askOrder(order, near(10)); break;
            case 2: case 3: askDays(order, near(4)); break;
            case 4: case 5: askDay(order, near(8)); break;
            case 6: case 7: case 8: case 9: askBill(order, below(3) > 0 ? 999 : near(40), near(6)); break;
            case 10: case 11: askGives(near(model.count(6)), order, near(1000)); break;
            case 12: askNext(order, near(62)); break;
            case 13: askHarm(order, near(3)); break;
            case 14: askShare(order, near(3)); break;
            default: askCount(near(14));
        }
    }

    private void askOrder(int order, int what) {
        due("ofOrder " + order + " " + what, yard.ofOrder(order, what), model.ofOrder(order, what));
    }

    private void askDays(int order, int what) {
        due("days " + order + " " + what, yard.days(order, what), model.days(order, what));
    }

    private void askDay(int order, int i) {
        due("dayOf " + order + " " + i, yard.dayOf(order, i), model.dayOf(order, i));
    }

    private void askBill(int order, int k, int what) {
        due("bill " + order + " " + k + " " + what, yard.bill(order, k, what), model.bill(order, k, what));
    }

    private void askGives(int terms, int order, int worked) {
        due("gives " + terms + " " + order, yard.gives(terms, order, worked), model.gives(terms, order, worked));
    }

    private void askNext(int order, int n) {
        due("next " + order + " " + n, yard.next(order, n), model.next(order, n));
    }

    private void askHarm(int order, int what) {
        due("harm " + order + " " + what, yard.harm(order, what), model.harm(order, what));
    }

    private void askShare(int order, int i) {
        due("share " + order + " " + i, yard.share(order, i), model.share(order, i));
    }

    private void askCount(int what) {
        due("count " + what, yard.count(what), model.count(what));
    }

    private void askOfMachines(int sort) {
        int machine = aMachine(), i = near(3);
        switch (sort) {
            case 0: case 1: case 2: case 3: askMachine(machine, near(10)); break;
            case 4: case 5: askWhy(machine, anOrder(below(2))); break;
            case 6: due("theft " + machine, yard.theft(machine, i), model.theft(machine, i)); break;
            case 7: askChain(machine, i, flag()); break;
            case 8: due("rank " + machine, yard.rank(machine, i), model.rank(machine, i)); break;
            case 9: askIdle(aType(), aTown(), flag()); break;
            case 10: askMove(aType()); break;
            default: askFar(aTown(), aTown());
        }
    }

    private void askMachine(int machine, int what) {
        due("ofMachine " + machine + " " + what, yard.ofMachine(machine, what), model.ofMachine(machine, what));
    }

    private void askWhy(int machine, int order) {
        due("why " + machine + " " + order, yard.why(machine, order), model.why(machine, order));
    }

    private void askChain(int machine, int i, int what) {
        due("chain " + machine + " " + i, yard.chain(machine, i, what), model.chain(machine, i, what));
    }

    private void askIdle(int type, int town, int what) {
        due("idle " + type + " " + town, yard.idle(type, town, what), model.idle(type, town, what));
    }

    private void askMove(int type) {
        due("move " + type, yard.move(type), model.move(type));
    }

    private void askFar(int a, int b) {
        due("far " + a + " " + b, yard.far(a, b), model.far(a, b));
    }

    private void tell(int sort) {
        switch (sort) {
            case 0: look(aMachine(), near(100)); break;
            case 1: broken(aMachine(), flag()); break;
            case 2: gone(aMachine()); break;
            case 3: case 4: track(aMachine(), aTown()); break;
            case 5: case 6: said(aHire(), near(5), flag()); break;
            case 7: rain(near(30), flag()); break;
            case 8: mark(aType(), near(16), below(200)); break;
            case 9: case 10: looks(anOrder(1 + below(3))); break;
            case 11: case 12: off(); break;
            case 13: case 14: case 15: stop(); break;
            case 16: round(); break;
            default: hours();
        }
    }

    private void look(int machine, int n) {
        due("look " + machine + " " + n, yard.look(machine, n), model.look(machine, n));
    }

    private void broken(int machine, int is) {
        due("broken " + machine + " " + is, yard.broken(machine, is), model.broken(machine, is));
    }

    private void track(int machine, int town) {
        due("track " + machine + " " + town, yard.track(machine, town), model.track(machine, town));
    }

    private void said(int order, int i, int worked) {
        due("said " + order + " " + i, yard.said(order, i, worked), model.said(order, i, worked));
    }

    private void rain(int day, int is) {
        due("rain " + day + " " + is, yard.rain(day, is), model.rain(day, is));
    }

    private void mark(int type, int mark, int cost) {
        due("mark " + type + " " + mark, yard.mark(type, mark, cost), model.mark(type, mark, cost));
    }

    private void gone(int machine) {
        int state = below(9) == 0 ? 2 : 3 + below(2);
        if (below(3) == 0) {
            due("gone " + machine, yard.gone(machine, state), model.gone(machine, state));
            for (int what = 0; what < 3; what++) {
                due("theft " + machine, yard.theft(machine, what), model.theft(machine, what));
            }
        }
    }

    private void off() {
        int order = anOrder(below(2));
        if (below(3) == 0) {
            due("off " + order, yard.off(order), model.off(order));
        }
    }

    private void stop() {
        int order = anOrder(1), machine = below(3) == 0 ? aMachine() : model.ofOrder(order, 6);
        due("stop " + machine, yard.stop(machine), model.stop(machine));
    }

    private void looks(int order) {
        int which = flag(), marks = near(65536), litres = near(1000);
        due("looked " + order + " " + which, yard.looked(order, which, marks), model.looked(order, which, marks));
        due("fuel " + order + " " + which, yard.fuel(order, which, litres), model.fuel(order, which, litres));
        due("harm " + order, yard.harm(order, 1), model.harm(order, 1));
    }

    private void round() {
        due("round", yard.round(), model.round());
        for (int i = 0; i < 3; i++) {
            due("stopped " + i, yard.stopped(i), model.stopped(i));
        }
    }
}
