/** Any call with any arguments in any state: none throws, and what is refused changes nothing. */
public final class HostileTest {
    private static final Check CHECK = new Check("hostile");
    private static final int[] EDGES = {-1, 0, 1, 2, 3, 5, 14, 15, 16, 59, 60, 89, 90, 99, 100, 199, 200, 240, 255, 256,
        300, 999, 1000, 9999, 23999, 65535, 99999, 100000, Integer.MAX_VALUE, Integer.MIN_VALUE};

    private static final String[] TEXTS = {"days*rate", "from 3 up weeks*300+least(rest*rate,300);all*50", "harm+fuel*2",
        "rain*10+broken*most(1,worth/over)", "1+", "from 1", "((((((((hours))))))))/sub-own"};
    private final Lots lots;
    private final Scene scene = new Scene();
    private final HireYard yard = scene.yard;

    private HostileTest(int seed) {
        lots = new Lots(seed);
    }

    public static void main(String[] args) {
        for (int seed = 1; seed <= 150; seed++) {
            new HostileTest(seed).run(seed);
        }
        for (int call = 0; call < 49; call++) {
            new HostileTest(call).onNothing(call);
        }
        CHECK.done();
    }

    /** Each call on a new object, by edges alone. */
    private void onNothing(int call) {
        for (int i = 0; i < 300; i++) {
            int[] x = {edge(), edge(), edge(), edge(), edge()};
            call(call, x);
        }
        CHECK.is("call " + call + " came back", 1, 1);
    }

    private void run(int seed) {
        if (seed % 10 != 0) {
            found();
        }
        for (int i = 0; i < 1500; i++) {
            if (lots.below(4) == 0) {
                goOn();
            }
            int call = lots.below(49);
            int[] x = {likely(), likely(), likely(), likely(), likely()};
            if (lots.below(4) > 0) {
                suit(call, x);
            }
            long before = sum(), sumOfTape = yard.count(11);
            int answer = call(call, x);
            if (answer <= -1 && answer >= -4 || answer == HireYard.VOID) {
                CHECK.is("call " + call + " refused, seed " + seed, sum(), before);
                CHECK.is("call " + call + " refused, tape, seed " + seed, yard.count(11), sumOfTape);
            }
        }
    }

    private void found() {
        for (int i = 0; i < 5; i++) {
            yard.town(i < 4 ? 1 : 0);
            yard.road(lots.below(i + 1), i, 1 + lots.below(90));
        }
        for (int i = 0; i < 3; i++) {
            yard.type(20000 + 1000 * lots.below(40) + 100 * lots.below(9), 100, lots.below(2), 500);
            yard.customer(lots.below(5), 255);
            yard.customer(lots.below(5), 1);
        }
        for (int i = 0; i < 12; i++) {
            yard.machine(lots.below(3), lots.below(4), lots.below(50));
            yard.instead(lots.below(3), lots.below(3), 1);
        }
    }

    /** One step of a common course, so that the other calls meet hires, bills and loads. */
    private void goOn() {
        int order = lots.below(Math.max(1, yard.count(4)));
        switch (lots.below(6)) {
            case 0:
                yard.order(lots.below(6), lots.below(3), yard.count(5) + 5 + lots.below(20), 1 + lots.below(9), 2);
                return;
            case 1:
                scene.promise(order, order / 2, yard.count(4) - 1);
                return;
            case 2:
                yard.look(lots.below(20), 1);
                return;
            case 3:
                yard.fetch(order, lots.below(4));
                return;
            case 4:
                scene.terms(lots.below(2), lots.below(30), TEXTS[lots.below(TEXTS.length)]);
                return;
            default:
                for (int i = 0; i < yard.count(4); i++) {
                    yard.send(i);
                }
        }
    }

    private int edge() {
        return EDGES[lots.below(EDGES.length)];
    }

    private int likely() {
        int sort = lots.below(10);
        return sort == 0 ? edge() : sort == 1 ? lots.below(300) : lots.below(6);
    }

    /** Some calls are refused nearly always without arguments of their own kind. */
    private void suit(int call, int[] x) {
        if (call == 19) {
            x[2] = yard.count(5) + lots.below(30);
            x[3] = 1 + lots.below(5);
            x[4] = 1 + lots.below(5);
        } else if (call == 15) {
            x[1] = yard.ofMachine(x[0], 1) + lots.below(3);
        } else if (call == 13 || call == 14) {
            x[1] = call == 14 ? 3 + lots.below(2) : lots.below(2);
        }
        if (call >= 20 && call != 23 && lots.below(2) == 0) {
            x[0] = lots.below(Math.max(1, yard.count(4)));
        }
    }

    private int call(int call, int[] x) {
        return call < 18 ? early(call, x) : call < 30 ? middle(call, x) : late(call, x);
    }

    private int early(int call, int[] x) {
        switch (call) {
            case 0: return yard.town(x[0]);
            case 1: return yard.road(x[0], x[1], x[2]);
            case 2: return yard.far(x[0], x[1]);
            case 3: return yard.hours(x[0]);
            case 4: return yard.rain(x[0], x[1]);
            case 5: return yard.type(x[0], x[1], x[2], x[3]);
            case 6: return yard.instead(x[0], x[1], x[2]);
            case 7: return yard.mark(x[0], x[1], x[2]);
            case 8: return yard.machine(x[0], x[1], x[2]);
            case 9: return yard.link(x[0], x[1], x[2]);
            case 10: return yard.ofMachine(x[0], x[1]);
            case 11: return yard.look(x[0], x[1]);
            case 12: return yard.count(x[0]);
            case 13: return yard.broken(x[0], x[1]);
            case 14: return lots.below(8) == 0 ? yard.gone(x[0], x[1]) : 1;
            case 15: return yard.read(x[0], x[1]);
            case 16: return yard.track(x[0], x[1]);
            default: return yard.theft(x[0], x[1]);
        }
    }

    private int middle(int call, int[] x) {
        switch (call) {
            case 18: return yard.customer(x[0], x[1]);
            case 19: return yard.order(x[0], x[1], x[2], x[3], x[4]);
            case 20: return yard.why(x[1], x[0]);
            case 21: return yard.list(x[0]);
            case 22: return yard.best();
            case 23: return yard.stop(x[0]);
            case 24: return yard.stopped(x[0]);
            case 25: return lots.below(4) == 0 ? Math.max(0, yard.round()) : yard.miles();
            case 26: return yard.send(x[0]);
            case 27: return yard.fetch(x[0], x[1]);
            case 28: return lots.below(8) == 0 ? yard.off(x[0]) : 1;
            default: return yard.ofOrder(x[0], x[1]);
        }
    }

    private int late(int call, int[] x) {
        switch (call) {
            case 30: return yard.said(x[0], x[1], x[2]);
            case 31: return yard.days(x[0], x[1]);
            case 32: return yard.dayOf(x[0], x[1]);
            case 33: return yard.feed(text(x[0]), text(x[1]), text(x[2]), text(x[3]), text(x[4]));
            case 34: return yard.end(lots.below(40));
            case 35: return yard.terms(x[0], x[1]);
            case 36: return yard.gives(x[1], x[0], x[2]);
            case 37: return yard.bill(x[0], x[1], x[2]);
            case 38: return yard.next(x[0], x[1]);
            case 39: return yard.looked(x[0], x[1], x[2]);
            case 40: return yard.fuel(x[0], x[1], x[2]);
            case 41: return yard.harm(x[0], x[1]);
            case 42: return yard.share(x[0], x[1]);
            case 43: return yard.chain(x[0], x[1], x[2]);
            case 44: return yard.rank(x[0], x[1]);
            case 45: return yard.idle(x[0], x[1], x[2]);
            case 46: return yard.move(x[0]);
            case 47: return yard.hours(1 + lots.below(30));
            default: return yard.list(lots.below(Math.max(1, yard.count(4))));
        }
    }

    private static int text(int x) {
        String parts = "days+all 12 ;1  from(1) *9/0least,)0 / hours-2 0";
        int at = Math.floorMod(x, parts.length() / 4) * 4;
        return parts.charAt(at) << 24 | parts.charAt(at + 1) << 16 | parts.charAt(at + 2) << 8 | parts.charAt(at + 3);
    }

    /** All that can be asked without changing anything, in one number. */
    private long sum() {
        long sum = 17;
        for (int what = 0; what < 14; what++) {
            sum = sum * 31 + yard.count(what);
        }
        for (int i = 0; i < 20; i++) {
            for (int what = 0; what < 10; what++) {
                sum = sum * 31 + yard.ofMachine(i, what);
                sum = sum * 31 + yard.ofOrder(i, what);
            }
            for (int what = 0; what < 4; what++) {
                sum = sum * 31 + yard.days(i, what);
                sum = sum * 31 + yard.harm(i, what);
                sum = sum * 31 + yard.theft(i, what);
                sum = sum * 31 + yard.rank(i, what);
                sum = sum * 31 + yard.bill(i, 999, what);
            }
            sum = sum * 31 + yard.far(i % 6, i / 6);
            sum = sum * 31 + yard.why(i, i / 2);
            sum = sum * 31 + yard.move(i);
        }
        return sum * 31 + yard.miles();
    }
}
