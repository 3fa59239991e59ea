/** A yard with what most tests need: calls that belong together in one. */
final class Scene {
    static final int BAD = HireYard.BAD, NOT = HireYard.NOT, FULL = HireYard.FULL, BIG = HireYard.BIG;
    static final int VOID = HireYard.VOID;

    final HireYard yard = new HireYard();

    /** Towns in a row, each with a yard, and so many miles from one to the next. */
    static Scene row(int towns, int miles) {
        Scene s = new Scene();
        for (int i = 0; i < towns; i++) {
            s.yard.town(1);
            if (i > 0) {
                s.yard.road(i - 1, i, miles);
            }
        }
        return s;
    }

    /** One town, type 0 (weight 10, no looks, rate 100, paper 0, worth 5000), customer 0 with all papers. */
    static Scene plain() {
        Scene s = row(1, 1);
        s.yard.type(10000, 100, 0, 5000);
        s.yard.customer(0, 255);
        return s;
    }

    /** A plain scene whose order 0 (60 days of 8 hours) has machine 0 out, the hire begun at hour 0. */
    static Scene hire() {
        Scene s = plain();
        s.yard.machine(0, 0, 0);
        s.yard.order(0, 0, 0, 60, 8);
        s.promise(0);
        s.yard.send(0);
        return s;
    }

    /**
     * HOUR 32, and something of each sort. TOWNS 0 and 1 with yards, two hours apart, 2 without one an hour
     * behind 1, 3 with one and no way; CUSTOMERS 0 to 3 in TOWNS 1, 2, 3 and 0. MACHINES: 0 out with order 0
     * (begun, two links), 1 back at yard 1 from order 1 (done), 2 promised to order 2 and a stop, 3 in look,
     * 4 broken, 5 sold, 6 stolen, 7 on a load for order 3 (not begun), 8 promised to order 7, 9 idle.
     * ORDERS: 4 is gone, 5 and 6 wait, 5 is on the list. TERMS 0 (price), 1 (damage); a tape of six bytes.
     */
    static Scene busy() {
        Scene s = new Scene();
        s.foundBusy();
        s.hireBusy();
        s.fillBusy();
        return s;
    }

    private void foundBusy() {
        for (int i = 0; i < 4; i++) {
            yard.town(i == 2 ? 0 : 1);
        }
        yard.road(0, 1, 60);
        yard.road(1, 2, 30);
        yard.type(10100, 500, 52, 9000);
        yard.type(30000, 800, 1, 20000);
        yard.type(99999, 9999, 997, 99999);
        yard.instead(1, 0, 1);
        yard.mark(0, 3, 40);
        for (int town : new int[] {1, 2, 3, 0}) {
            yard.customer(town, 255);
        }
        terms(0, 0, "days*rate+harm");
        terms(1, 0, "harm+fuel*2");
    }

    private void hireBusy() {
        yard.machine(1, 0, 0);
        yard.order(0, 1, 2, 9, 8);
        promise(0);
        yard.send(0);
        yard.machine(0, 0, 10);
        yard.order(1, 0, 3, 2, 8);
        promise(1);
        yard.looked(1, 0, 1);
        yard.fuel(1, 0, 90);
        yard.send(1);
        yard.hours(4);
        yard.read(0, 6);
        yard.said(0, 0, 0);
        yard.hours(26);
        yard.read(1, 20);
        yard.fetch(1, 1);
        yard.looked(1, 1, 9);
        yard.fuel(1, 1, 50);
        yard.hours(2);
        yard.link(0, 3, 60);
        yard.link(0, 4, 80);
    }

    private void fillBusy() {
        yard.machine(0, 0, 5);
        yard.order(3, 0, 60, 2, 8);
        promise(2);
        yard.stop(2);
        yard.machine(0, 1, 0);
        yard.look(3, 50);
        yard.machine(1, 0, 0);
        yard.broken(4, 1);
        yard.machine(0, 0, 0);
        yard.gone(5, 3);
        yard.machine(0, 0, 0);
        yard.track(6, 0);
        yard.track(6, 1);
        yard.gone(6, 4);
        yard.machine(1, 0, 0);
        yard.order(1, 1, 36, 4, 3);
        promise(3);
        yard.send(3);
        yard.order(0, 0, 70, 1, 5);
        yard.off(4);
        yard.order(1, 0, 80, 1, 5);
        yard.order(1, 0, 80, 9, 9);
        yard.machine(0, 0, 50);
        yard.order(3, 0, 60, 1, 1);
        promise(7);
        yard.machine(0, 0, 51);
        yard.list(5);
        yard.rain(0, 1);
        write("days*3");
    }

    /** Lists the orders and lets the best be done for them. */
    int promise(int... orders) {
        for (int order : orders) {
            yard.list(order);
        }
        return yard.best();
    }

    /** Lets hours go by, more than 240 too. */
    int pass(int hours) {
        int left = hours;
        while (left > 240) {
            yard.hours(240);
            left -= 240;
        }
        return left > 0 ? yard.hours(left) : yard.count(5);
    }

    void write(String text) {
        byte[] bytes = new byte[(text.length() + 19) / 20 * 20];
        for (int i = 0; i < text.length(); i++) {
            bytes[i] = (byte) text.charAt(i);
        }
        yard.end(0);
        for (int i = 0; i < bytes.length; i += 20) {
            yard.feed(four(bytes, i), four(bytes, i + 4), four(bytes, i + 8), four(bytes, i + 12), four(bytes, i + 16));
        }
        yard.end(text.length());
    }

    private static int four(byte[] bytes, int i) {
        return (bytes[i] & 255) << 24 | (bytes[i + 1] & 255) << 16 | (bytes[i + 2] & 255) << 8 | bytes[i + 3] & 255;
    }

    int terms(int use, int from, String text) {
        write(text);
        return yard.terms(use, from);
    }

    long[] ofMachine(int machine) {
        long[] all = new long[10];
        for (int what = 0; what < 10; what++) {
            all[what] = yard.ofMachine(machine, what);
        }
        return all;
    }

    long[] ofOrder(int order) {
        long[] all = new long[10];
        for (int what = 0; what < 10; what++) {
            all[what] = yard.ofOrder(order, what);
        }
        return all;
    }
}
