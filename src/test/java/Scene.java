/** A yard with what most tests need: calls that belong together in one. */
final class Scene {
    static final int BAD = HireYard.BAD, NOT = HireYard.NOT, FULL = HireYard.FULL, BIG = HireYard.BIG;
    static final int VOID = HireYard.VOID;

    final HireYard yard = new HireYard();

    /** Towns in a row, each with a yard, and so many miles from one to the next. */
    static Scene row(int towns, int miles) {
        Scene s = new Scene();
        for (int i = 0; i < towns; i++) {
            s.yard.town(1);
            if (i > 0) {
                s.yard.road(i - 1, i, miles);
            }
        }
        return s;
    }

    /** One town, type 0 (weight 10, no looks, rate 100, paper 0, worth 5000), customer 0 with all papers. */
    static Scene plain() {
        Scene s = row(1, 1);
        s.yard.type(10000, 100, 0, 5000);
        s.yard.customer(0, 255);
        return s;
    }

    /** A plain scene whose order 0 (60 days of 8 hours) has machine 0 out, the hire begun at hour 0. */
    static Scene hire() {
        Scene s = plain();
        s.yard.machine(0, 0, 0);
        s.yard.order(0, 0, 0, 60, 8);
        s.promise(0);
        s.yard.send(0);
        return s;
    }

    /** Lists the orders and lets the best be done for them. */
    int promise(int... orders) {
        for (int order : orders) {
            yard.list(order);
        }
        return yard.best();
    }

    /** Lets hours go by, more than 240 too. */
    int pass(int hours) {
        int left = hours;
        while (left > 240) {
            yard.hours(240);
            left -= 240;
        }
        return left > 0 ? yard.hours(left) : yard.count(5);
    }

    void write(String text) {
        byte[] bytes = new byte[(text.length() + 19) / 20 * 20];
        for (int i = 0; i < text.length(); i++) {
            bytes[i] = (byte) text.charAt(i);
        }
        yard.end(0);
        for (int i = 0; i < bytes.length; i += 20) {
            yard.feed(four(bytes, i), four(bytes, i + 4), four(bytes, i + 8), four(bytes, i + 12), four(bytes, i + 16));
        }
        yard.end(text.length());
    }

    private static int four(byte[] bytes, int i) {
        return (bytes[i] & 255) << 24 | (bytes[i + 1] & 255) << 16 | (bytes[i + 2] & 255) << 8 | bytes[i + 3] & 255;
    }

    int terms(int use, int from, String text) {
        write(text);
        return yard.terms(use, from);
    }

    long[] ofMachine(int machine) {
        long[] all = new long[10];
        for (int what = 0; what < 10; what++) {
            all[what] = yard.ofMachine(machine, what);
        }
        return all;
    }

    long[] ofOrder(int order) {
        long[] all = new long[10];
        for (int what = 0; what < 10; what++) {
            all[what] = yard.ofOrder(order, what);
        }
        return all;
    }
}
