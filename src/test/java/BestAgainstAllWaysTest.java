/** BEST and ROUND in scenes by lot, against a search through all ways (promises 23, 24, 25, 27). */
public final class BestAgainstAllWaysTest {
    private static final Check CHECK = new Check("best against all ways");
    private static final int TYPES = 3, NONE = 90;

    private final Lots lots;
    private final HireYard yard = new HireYard();
    private int[] listed;
    private int machines;
    /** By order as listed and machine: miles, or -1 if it may not go; whether it is a substitute. */
    private int[][] ride;
    private int[][] sub;
    private int[] way;
    private long[] bestCost;
    private int[] bestWay;

    private BestAgainstAllWaysTest(int seed) {
        lots = new Lots(seed);
    }

    public static void main(String[] args) {
        for (int seed = 1; seed <= 300; seed++) {
            BestAgainstAllWaysTest t = new BestAgainstAllWaysTest(seed);
            t.found();
            t.best(seed);
            t.round(seed);
        }
        CHECK.done();
    }

    private void found() {
        int towns = 2 + lots.below(5);
        for (int i = 0; i < towns; i++) {
            yard.town(1);
        }
        for (int i = 0; i < 2 * towns; i++) {
            yard.road(lots.below(towns), lots.below(towns), 10 * (1 + lots.below(4)));
        }
        for (int i = 0; i < TYPES; i++) {
            yard.type(10000 + 1000 * lots.below(60), 1, lots.below(2), 0);
        }
        for (int i = 0; i < 4; i++) {
            yard.instead(lots.below(TYPES), lots.below(TYPES), 1);
        }
        for (int i = 0; i < 4; i++) {
            yard.customer(lots.below(towns), 1 + 2 * lots.below(2));
        }
        machines = 1 + lots.below(8);
        for (int i = 0; i < machines; i++) {
            yard.machine(lots.below(TYPES), lots.below(Math.min(towns, 3)), 0);
        }
        listed = new int[1 + lots.below(6)];
        for (int i = 0; i < listed.length; i++) {
            yard.order(lots.below(4), lots.below(TYPES), 1 + lots.below(4), 1, 1);
        }
        for (int i = 0; i < listed.length; i++) {
            listed[i] = listed.length - 1 - i;
            yard.list(listed[i]);
        }
    }

    private void best(int seed) {
        way = new int[listed.length];
        bestCost = null;
        ask();
        search(0, new long[] {0, 0, 0});
        int served = 0;
        for (int machine : bestWay) {
            served += machine == NONE ? 0 : 1;
        }
        CHECK.is("23: how many, seed " + seed, yard.best(), served);
        CHECK.is("24: miles, seed " + seed, yard.miles(), bestCost[1]);
        for (int i = 0; i < listed.length; i++) {
            int due = bestWay[i] == NONE ? -1 : bestWay[i];
            CHECK.is("23: order " + listed[i] + ", seed " + seed, yard.ofOrder(listed[i], 6), due);
        }
    }

    /** All that the search has to know, asked once: an object is good for 512 calls. */
    private void ask() {
        ride = new int[listed.length][machines];
        sub = new int[listed.length][machines];
        for (int i = 0; i < listed.length; i++) {
            int type = yard.ofOrder(listed[i], 1), to = customerTown(yard.ofOrder(listed[i], 0));
            for (int m = 0; m < machines; m++) {
                boolean may = yard.why(m, listed[i]) == 0;
                ride[i][m] = may ? yard.far(yard.ofMachine(m, 3), to) : -1;
                sub[i][m] = yard.ofMachine(m, 0) == type ? 0 : 1;
            }
        }
    }

    /** Tries all ways, the first ones first; costs: without a machine, miles, substitutes. */
    private void search(int i, long[] cost) {
        if (i == listed.length) {
            if (bestCost == null || java.util.Arrays.compare(cost, bestCost) < 0) {
                bestCost = cost.clone();
                bestWay = way.clone();
            }
            return;
        }
        for (int m = 0; m < machines; m++) {
            if (!taken(m, i) && ride[i][m] >= 0) {
                way[i] = m;
                search(i + 1, new long[] {cost[0], cost[1] + ride[i][m], cost[2] + sub[i][m]});
            }
        }
        way[i] = NONE;
        search(i + 1, new long[] {cost[0] + 1, cost[1], cost[2]});
    }

    private boolean taken(int machine, int before) {
        for (int i = 0; i < before; i++) {
            if (way[i] == machine) {
                return true;
            }
        }
        return false;
    }

    /** A customer's town, asked by the orders of its own that are wanted there: found by a new order. */
    private int customerTown(int customer) {
        if (towns[customer] < 0) {
            int[] before = wanted();
            yard.order(customer, 0, 23999, 1, 1);
            int[] after = wanted();
            for (int town = 0; town < before.length; town++) {
                if (after[town] > before[town]) {
                    towns[customer] = town;
                }
            }
        }
        return towns[customer];
    }

    private final int[] towns = {-1, -1, -1, -1};

    private int[] wanted() {
        int[] all = new int[yard.count(0)];
        for (int town = 0; town < all.length; town++) {
            all[town] = yard.idle(0, town, 1);
        }
        return all;
    }

    private void round(int seed) {
        int[] stops = new int[5];
        int count = 0, weight = 0;
        for (int m = machines - 1; m >= 0; m--) {
            if (yard.stop(m) > 0) {
                stops[count++] = m;
            }
        }
        int got = yard.round();
        if (count == 0) {
            CHECK.is("25: none, seed " + seed, got, Scene.NOT);
            return;
        }
        int[] sorted = java.util.Arrays.copyOf(stops, count);
        java.util.Arrays.sort(sorted);
        row = null;
        least = Integer.MAX_VALUE;
        askWays(stops, count);
        rows(sorted, new int[count], 0);
        if (got == Scene.BIG) {
            CHECK.is("25: few are never BIG, seed " + seed, count > 3 ? 1 : 0, 1);
            return;
        }
        CHECK.is("25: miles, seed " + seed, got, least);
        for (int i = 0; i < count; i++) {
            CHECK.is("27: stop " + i + ", seed " + seed, yard.stopped(i), row[i]);
        }
        CHECK.is("27: no more, seed " + seed, yard.stopped(count), Scene.BAD);
    }

    private int[] row;
    private int least;
    /** Of each stop the TOWN where it is wanted; between all towns the miles. */
    private final int[] goals = new int[NONE];
    private int[][] far;
    private int home;

    private void askWays(int[] stops, int count) {
        home = yard.ofMachine(stops[0], 3);
        for (int i = 0; i < count; i++) {
            goals[stops[i]] = customerTown(yard.ofOrder(yard.ofMachine(stops[i], 7), 0));
        }
        far = new int[yard.count(0)][yard.count(0)];
        for (int a = 0; a < far.length; a++) {
            for (int b = 0; b < far.length; b++) {
                far[a][b] = yard.far(a, b);
            }
        }
    }

    private void rows(int[] sorted, int[] tried, int n) {
        if (n == sorted.length) {
            int at = home, sum = 0;
            for (int machine : tried) {
                sum += far[at][goals[machine]];
                at = goals[machine];
            }
            sum += far[at][home];
            if (sum < least) {
                least = sum;
                row = tried.clone();
            }
            return;
        }
        for (int machine : sorted) {
            boolean used = false;
            for (int i = 0; i < n; i++) {
                used = used || tried[i] == machine;
            }
            if (!used) {
                tried[n] = machine;
                rows(sorted, tried, n + 1);
            }
        }
    }
}
