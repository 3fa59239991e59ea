import java.util.ArrayList;
import java.util.List;

/** A second writing of the document, plain and slow: nothing is kept that can be reckoned when it is asked. */
final class Model {
    private static final int BAD = -1, NOT = -2, FULL = -3, BIG = -4, VOID = -2000000000;

    /** One READING, TRACK, span or LINK: its numbers. */
    private static final class Machine {
        int type, town, meterAtLook, lookTill, loadedAt = -1, thereAt, toldAt;
        /** 0, or 2 BROKEN, 3 SOLD, 4 STOLEN as told. */
        int told;
        boolean loaded;
        Order order;
        int[] theft;
        final List<int[]> readings = new ArrayList<>(), spans = new ArrayList<>(), links = new ArrayList<>();
    }

    private static final class Order {
        int number, customer, type, from, days, work, came, state, begin = -1, end = -1;
        Machine machine;
        final int[] said = new int[60], looks = {-1, -1}, litres = {-1, -1};
        /** How many machines had been sent in all when its own was. */
        int sentAs;
    }

    private static final class Text {
        int use, from, made;
        String text;
    }

    private int hour, toldReadings, spans, latestMiles = BAD;
    private final List<Integer> yards = new ArrayList<>();
    private final int[][] roads = new int[12][12];
    private final boolean[] rain = new boolean[1000];
    private final List<int[]> types = new ArrayList<>(), customers = new ArrayList<>(), tracks = new ArrayList<>();
    private final int[][] costs = new int[15][16];
    private final boolean[][] goesFor = new boolean[15][15];
    private final List<Machine> machines = new ArrayList<>(), stops = new ArrayList<>(), sent = new ArrayList<>();
    private List<Machine> row = new ArrayList<>();
    private final List<Order> orders = new ArrayList<>(), list = new ArrayList<>();
    private final List<Text> texts = new ArrayList<>();
    private String tape = "";

    private static boolean in(int x, int least, int most) {
        return x >= least && x <= most;
    }

    private static boolean has(List<?> all, int i) {
        return in(i, 0, all.size() - 1);
    }

    private boolean isYard(int town) {
        return has(yards, town) && yards.get(town) == 1;
    }

    // ---- towns, time

    int town(int yard) {
        if (!in(yard, 0, 1)) {
            return BAD;
        }
        if (yards.size() == 12) {
            return FULL;
        }
        yards.add(yard);
        return yards.size() - 1;
    }

    int road(int a, int b, int miles) {
        if (!has(yards, a) || !has(yards, b) || a == b || !in(miles, 1, 300)) {
            return BAD;
        }
        int before = roads[a][b] == 0 ? 301 : roads[a][b];
        roads[a][b] = Math.min(before, miles);
        roads[b][a] = roads[a][b];
        return roads[a][b];
    }

    /** Miles by ever longer ways; -1: none. */
    private int way(int a, int b) {
        int[] least = new int[yards.size()];
        java.util.Arrays.fill(least, 1000000);
        least[a] = 0;
        for (int turn = 0; turn < yards.size(); turn++) {
            for (int i = 0; i < yards.size(); i++) {
                for (int j = 0; j < yards.size(); j++) {
                    if (roads[i][j] > 0) {
                        least[j] = Math.min(least[j], least[i] + roads[i][j]);
                    }
                }
            }
        }
        return least[b] < 1000000 ? least[b] : -1;
    }

    private int ride(int a, int b) {
        int miles = way(a, b);
        return miles < 0 ? -1 : miles / 30 + (miles % 30 > 0 ? 1 : 0);
    }

    int far(int a, int b) {
        if (!has(yards, a) || !has(yards, b)) {
            return BAD;
        }
        return way(a, b) < 0 ? NOT : way(a, b);
    }

    int hours(int n) {
        if (!in(n, 1, 240) || hour + n > 23999) {
            return BAD;
        }
        hour += n;
        return hour;
    }

    int rain(int day, int is) {
        if (!in(day, 0, 999) || !in(is, 0, 1)) {
            return BAD;
        }
        int was = rain[day] ? 1 : 0;
        rain[day] = is == 1;
        return was;
    }

    // ---- types, machines

    int type(int what, int rate, int needs, int worth) {
        boolean fits = what >= 0 && in(what / 1000, 1, 99) && in(rate, 1, 9999) && needs >= 0
            && in(needs / 10, 0, 99) && in(needs % 10, 0, 7) && in(worth, 0, 99999);
        if (!fits) {
            return BAD;
        }
        if (types.size() == 15) {
            return FULL;
        }
        types.add(new int[] {what / 1000, what % 1000, rate, needs % 10, worth});
        return types.size() - 1;
    }

    int instead(int type, int other, int is) {
        if (!has(types, type) || !has(types, other) || type == other || !in(is, 0, 1)) {
            return BAD;
        }
        int was = goesFor[type][other] ? 1 : 0;
        goesFor[type][other] = is == 1;
        return was;
    }

    int mark(int type, int mark, int cost) {
        if (!has(types, type) || !in(mark, 0, 15) || !in(cost, 0, 9999)) {
            return BAD;
        }
        int was = costs[type][mark];
        costs[type][mark] = cost;
        return was;
    }

    int machine(int type, int town, int meter) {
        if (!has(types, type) || !isYard(town) || !in(meter, 0, 99999)) {
            return BAD;
        }
        if (machines.size() == 90) {
            return FULL;
        }
        Machine m = new Machine();
        m.type = type;
        m.town = town;
        m.toldAt = hour;
        m.thereAt = hour;
        m.readings.add(new int[] {hour, meter, 0});
        machines.add(m);
        return machines.size() - 1;
    }

    int link(int machine, int owner, int rate) {
        if (!has(machines, machine) || !in(owner, 0, 9) || !in(rate, 1, 9999)) {
            return BAD;
        }
        List<int[]> links = machines.get(machine).links;
        if (links.size() == 5) {
            return FULL;
        }
        links.add(new int[] {owner, rate});
        return links.size();
    }

    private int state(Machine m) {
        return m.told > 0 ? m.told : hour < m.lookTill ? 1 : 0;
    }

    private int where(Machine m) {
        if (m.told >= 3) {
            return 3;
        }
        return hour < m.thereAt ? 1 : m.order != null && m.order.state == 2 ? 2 : 0;
    }

    private static int meter(Machine m) {
        return m.readings.get(m.readings.size() - 1)[1];
    }

    private boolean isIdle(Machine m) {
        return state(m) == 0 && where(m) == 0 && m.order == null;
    }

    int ofMachine(int machine, int what) {
        if (!has(machines, machine) || !in(what, 0, 9)) {
            return VOID;
        }
        Machine m = machines.get(machine);
        int every = types.get(m.type)[1], since = meter(m) - m.meterAtLook;
        int busyTill = where(m) == 1 ? m.thereAt : state(m) == 1 ? m.lookTill : -1;
        int[] all = {m.type, meter(m), where(m), where(m) == 3 ? -1 : m.town, state(m), since, busyTill,
            m.order == null ? -1 : m.order.number, m.links.size(), every == 0 ? -1 : since >= every ? 0 : every - since};
        return all[what];
    }

    int look(int machine, int n) {
        if (!has(machines, machine) || !in(n, 1, 99)) {
            return BAD;
        }
        Machine m = machines.get(machine);
        if (!isIdle(m)) {
            return NOT;
        }
        m.lookTill = hour + n;
        m.meterAtLook = meter(m);
        return 1;
    }

    int broken(int machine, int is) {
        if (!has(machines, machine) || !in(is, 0, 1)) {
            return BAD;
        }
        Machine m = machines.get(machine);
        int state = state(m);
        if (state == 1 || state >= 3 || (state == 2) == (is == 1)) {
            return NOT;
        }
        if (is == 1 && spans == 200) {
            return FULL;
        }
        if (is == 1) {
            spans++;
            m.spans.add(new int[] {hour, -1});
            m.told = 2;
        } else {
            m.spans.get(m.spans.size() - 1)[1] = hour;
            m.told = 0;
        }
        return 1;
    }

    int gone(int machine, int state) {
        if (!has(machines, machine) || !in(state, 3, 4)) {
            return BAD;
        }
        Machine m = machines.get(machine);
        if (m.told >= 3 || state == 3 && !isIdle(m)) {
            return NOT;
        }
        if (m.told == 2) {
            m.spans.get(m.spans.size() - 1)[1] = hour;
        }
        m.theft = new int[] {!m.loaded ? m.toldAt : hour < m.thereAt ? m.loadedAt : m.thereAt, hour, m.town};
        Order o = m.order;
        m.order = null;
        m.told = state;
        m.lookTill = 0;
        if (o != null && begun(o)) {
            o.state = 3;
            o.end = hour;
        } else if (o != null) {
            o.state = 0;
            o.machine = null;
            o.begin = -1;
        }
        return 1;
    }

    int read(int machine, int meter) {
        if (!has(machines, machine) || !in(meter, meter(machines.get(machine)), 99999)) {
            return BAD;
        }
        Machine m = machines.get(machine);
        if (where(m) == 3) {
            return NOT;
        }
        int[] last = m.readings.get(m.readings.size() - 1);
        boolean takesPlace = last[0] == hour;
        int more = takesPlace && last[2] == 1 ? 0 : 1;
        if (toldReadings + more > 400) {
            return FULL;
        }
        toldReadings += more;
        if (takesPlace) {
            m.readings.remove(last);
        }
        m.readings.add(new int[] {hour, meter, 1});
        return meter;
    }

    int track(int machine, int town) {
        if (!has(machines, machine) || !has(yards, town)) {
            return BAD;
        }
        if (tracks.size() == 300) {
            return FULL;
        }
        tracks.add(new int[] {machine, hour, town});
        return tracks.size();
    }

    int theft(int machine, int what) {
        if (!has(machines, machine) || !in(what, 0, 2)) {
            return BAD;
        }
        Machine m = machines.get(machine);
        if (m.told != 4) {
            return NOT;
        }
        int from = m.theft[0], to = m.theft[1];
        for (int[] t : tracks) {
            if (t[0] == machine && in(t[1], m.theft[0], m.theft[1])) {
                if (t[2] != m.theft[2]) {
                    to = t[1];
                    break;
                }
                from = t[1];
            }
        }
        return new int[] {from, to, m.theft[2]}[what];
    }

    // ---- customers, orders

    int customer(int town, int papers) {
        if (!has(yards, town) || !in(papers, 0, 255)) {
            return BAD;
        }
        if (customers.size() == 30) {
            return FULL;
        }
        customers.add(new int[] {town, papers});
        return customers.size() - 1;
    }

    int order(int customer, int type, int from, int days, int work) {
        boolean fits = has(customers, customer) && has(types, type) && in(from, hour, 23999)
            && in(days, 1, 60) && in(work, 1, 24);
        if (!fits) {
            return BAD;
        }
        if (orders.size() == 100) {
            return FULL;
        }
        Order o = new Order();
        o.number = orders.size();
        o.customer = customer;
        o.type = type;
        o.from = from;
        o.days = days;
        o.work = work;
        o.came = hour;
        java.util.Arrays.fill(o.said, 1);
        orders.add(o);
        return o.number;
    }

    private int townOf(Order o) {
        return customers.get(o.customer)[0];
    }

    private int why(Machine m, Order o) {
        int[] type = types.get(m.type);
        if (state(m) != 0 || where(m) != 0) {
            return 1;
        }
        if (m.type != o.type && !goesFor[m.type][o.type]) {
            return 2;
        }
        if ((customers.get(o.customer)[1] & 1 << type[3]) == 0) {
            return 3;
        }
        int since = meter(m) - m.meterAtLook;
        if (type[1] > 0 && (since >= type[1] || since + o.days * o.work > type[1])) {
            return 4;
        }
        int ride = ride(m.town, townOf(o));
        if (ride < 0 || hour + ride > o.from) {
            return 5;
        }
        return m.order != null && m.order != o ? 6 : 0;
    }

    int why(int machine, int order) {
        return has(machines, machine) && has(orders, order) ? why(machines.get(machine), orders.get(order)) : BAD;
    }

    int list(int order) {
        if (!has(orders, order)) {
            return BAD;
        }
        Order o = orders.get(order);
        if (o.state != 0 || list.contains(o)) {
            return NOT;
        }
        if (list.size() == 6) {
            return FULL;
        }
        list.add(o);
        return list.size();
    }

    private int[] bestCost;
    private Machine[] bestWay;

    /** Tries each way, the lesser machines first: without a machine, miles, substitutes. */
    private void tryWays(int i, Machine[] way, int[] cost) {
        if (i == list.size()) {
            if (bestCost == null || java.util.Arrays.compare(cost, bestCost) < 0) {
                bestCost = cost;
                bestWay = way.clone();
            }
            return;
        }
        Order o = list.get(i);
        for (Machine m : machines) {
            if (o.state == 0 && !java.util.Arrays.asList(way).subList(0, i).contains(m) && why(m, o) == 0) {
                way[i] = m;
                tryWays(i + 1, way, new int[] {cost[0], cost[1] + way(m.town, townOf(o)),
                    cost[2] + (m.type == o.type ? 0 : 1)});
            }
        }
        way[i] = null;
        tryWays(i + 1, way, new int[] {cost[0] + 1, cost[1], cost[2]});
    }

    int best() {
        if (list.isEmpty()) {
            return NOT;
        }
        bestCost = null;
        tryWays(0, new Machine[list.size()], new int[3]);
        int served = 0;
        for (int i = 0; i < list.size(); i++) {
            if (bestWay[i] != null) {
                served++;
                list.get(i).state = 1;
                list.get(i).machine = bestWay[i];
                bestWay[i].order = list.get(i);
            }
        }
        latestMiles = bestCost[1];
        list.clear();
        return served;
    }

    int miles() {
        return latestMiles;
    }

    private static boolean isPromised(Machine m) {
        return m.order != null && m.order.state == 1;
    }

    int stop(int machine) {
        if (!has(machines, machine)) {
            return BAD;
        }
        Machine m = machines.get(machine);
        boolean fits = isPromised(m) && where(m) == 0 && !stops.contains(m);
        for (Machine s : stops) {
            fits = fits && where(s) != 3 && s.town == m.town;
        }
        if (!fits) {
            return NOT;
        }
        if (stops.size() == 5) {
            return FULL;
        }
        stops.add(m);
        return stops.size();
    }

    private int leastMiles;

    private void tryRows(List<Machine> left, List<Machine> tried, int home) {
        if (left.isEmpty()) {
            int at = home, sum = 0;
            for (Machine m : tried) {
                sum += way(at, townOf(m.order));
                at = townOf(m.order);
            }
            sum += way(at, home);
            if (sum < leastMiles) {
                leastMiles = sum;
                row = tried;
            }
            return;
        }
        for (Machine m : left) {
            List<Machine> rest = new ArrayList<>(left), more = new ArrayList<>(tried);
            rest.remove(m);
            more.add(m);
            tryRows(rest, more, home);
        }
    }

    int round() {
        stops.removeIf(m -> !isPromised(m));
        List<Machine> told = new ArrayList<>(stops);
        stops.clear();
        if (told.isEmpty()) {
            return NOT;
        }
        if (told.stream().mapToInt(m -> types.get(m.type)[0]).sum() > 260) {
            return BIG;
        }
        int home = told.get(0).town;
        told.sort((a, b) -> machines.indexOf(a) - machines.indexOf(b));
        leastMiles = Integer.MAX_VALUE;
        tryRows(told, new ArrayList<>(), home);
        return leastMiles;
    }

    int stopped(int i) {
        return has(row, i) ? machines.indexOf(row.get(i)) : BAD;
    }

    private void load(Machine m, int town, int ride) {
        m.town = town;
        m.loaded = true;
        m.loadedAt = hour;
        m.thereAt = hour + ride;
    }

    int send(int order) {
        if (!has(orders, order)) {
            return BAD;
        }
        Order o = orders.get(order);
        if (o.state != 1 || state(o.machine) != 0 || ride(o.machine.town, townOf(o)) < 0) {
            return NOT;
        }
        int ride = ride(o.machine.town, townOf(o));
        o.state = 2;
        o.begin = hour + ride > o.from ? hour + ride : o.from;
        load(o.machine, townOf(o), ride);
        sent.add(o.machine);
        o.sentAs = sent.size();
        return hour + ride;
    }

    private boolean begun(Order o) {
        return o.state == 3 || o.state == 2 && hour >= o.begin;
    }

    int fetch(int order, int town) {
        if (!has(orders, order) || !isYard(town)) {
            return BAD;
        }
        Order o = orders.get(order);
        if (o.state != 2 || !begun(o) || ride(o.machine.town, town) < 0) {
            return NOT;
        }
        o.state = 3;
        o.end = hour;
        o.machine.order = null;
        int ride = ride(o.machine.town, town);
        load(o.machine, town, ride);
        return hour + ride;
    }

    int off(int order) {
        if (!has(orders, order)) {
            return BAD;
        }
        Order o = orders.get(order);
        if (o.state > 1) {
            return NOT;
        }
        if (o.state == 1) {
            o.machine.order = null;
        }
        o.machine = null;
        o.state = 4;
        return 1;
    }

    int ofOrder(int order, int what) {
        if (!has(orders, order) || !in(what, 0, 9)) {
            return VOID;
        }
        Order o = orders.get(order);
        return new int[] {o.customer, o.type, o.from, o.days, o.work, o.state,
            o.machine == null ? -1 : machines.indexOf(o.machine), o.begin, o.end, o.came}[what];
    }

    // ---- days, bills

    int said(int order, int i, int worked) {
        if (!has(orders, order) || !in(i, 0, 59) || !in(worked, 0, 1)) {
            return BAD;
        }
        if (!begun(orders.get(order))) {
            return NOT;
        }
        orders.get(order).said[i] = worked;
        return 1;
    }

    private int end(Order o) {
        return o.state == 3 ? o.end : hour;
    }

    private int allDays(Order o) {
        int days = 0;
        while (o.begin + 24 * days < end(o)) {
            days++;
        }
        return days;
    }

    private int day(Order o, int i) {
        int from = o.begin + 24 * i, to = Math.min(from + 24, end(o));
        int first = -1, last = -1, ahead = -1, behind = -1;
        for (int[] r : o.machine.readings) {
            if (in(r[0], from, to)) {
                first = first < 0 ? r[1] : first;
                last = r[1];
            }
            ahead = r[0] <= from ? r[1] : ahead;
            behind = r[0] >= to && behind < 0 ? r[1] : behind;
        }
        if (first != last) {
            return 1;
        }
        if (ahead >= 0 && ahead == behind) {
            return 0;
        }
        return i >= 60 || o.said[i] == 1 ? 2 : 3;
    }

    private int worked(Order o, int what) {
        int sum = 0;
        for (int i = 0; i < allDays(o); i++) {
            int day = day(o, i);
            sum += day == 1 || day == 2 && what > 1 || day == 3 && what == 2 ? 1 : 0;
        }
        return sum;
    }

    int days(int order, int what) {
        if (!has(orders, order) || !in(what, 0, 3) || !begun(orders.get(order))) {
            return VOID;
        }
        Order o = orders.get(order);
        return what == 0 ? allDays(o) : worked(o, what);
    }

    int dayOf(int order, int i) {
        if (!has(orders, order) || !begun(orders.get(order)) || !in(i, 0, allDays(orders.get(order)) - 1)) {
            return BAD;
        }
        return day(orders.get(order), i);
    }

    int feed(int a, int b, int c, int d, int e) {
        if (tape.length() > 180) {
            return FULL;
        }
        StringBuilder more = new StringBuilder(tape);
        for (int x : new int[] {a, b, c, d, e}) {
            for (int i = 3; i >= 0; i--) {
                more.append((char) (x >> 8 * i & 255));
            }
        }
        tape = more.toString();
        return tape.length();
    }

    int end(int n) {
        if (!in(n, 0, tape.length())) {
            return BAD;
        }
        tape = tape.substring(0, n);
        return n;
    }

    /** Faults are another test's: this one is given texts without any, or the place of it. */
    int terms(int use, int from, int fault) {
        if (!in(use, 0, 1) || !in(from, 0, 999)) {
            return BAD;
        }
        if (texts.size() == 16) {
            return FULL;
        }
        Text t = new Text();
        t.text = tape;
        tape = "";
        if (fault >= 0) {
            return -100 - fault;
        }
        t.use = use;
        t.from = from;
        t.made = hour / 24;
        texts.add(t);
        return texts.size() - 1;
    }

    private int metered(Machine m, int till) {
        int meter = 0;
        for (int[] r : m.readings) {
            meter = r[0] <= till ? r[1] : meter;
        }
        return meter;
    }

    private Texts names(Order o) {
        Texts t = new Texts();
        int hours = metered(o.machine, end(o)) - metered(o.machine, o.begin), wet = 0, broken = 0;
        for (int h = o.begin; h < end(o); h++) {
            wet += rain[h / 24] && (h == o.begin || h % 24 == 0) ? 1 : 0;
            for (int[] s : o.machine.spans) {
                broken += h >= s[0] && (s[1] < 0 || h < s[1]) ? 1 : 0;
            }
        }
        t.put("days", worked(o, 3));
        t.put("hours", hours);
        t.put("work", o.work);
        t.all(allDays(o));
        t.put("rate", types.get(o.type)[2]);
        t.put("rain", wet);
        t.put("broken", broken);
        t.put("fuel", harm(o.number, 2));
        t.put("harm", harm(o.number, 1));
        t.put("worth", types.get(o.machine.type)[4]);
        t.put("own", o.machine.links.isEmpty() ? 1 : 0);
        t.put("sub", o.machine.type == o.type ? 0 : 1);
        return t;
    }

    int gives(int terms, int order, int worked) {
        if (!has(texts, terms) || !has(orders, order) || !in(worked, 0, 999) || !begun(orders.get(order))) {
            return VOID;
        }
        Texts names = names(orders.get(order));
        names.put("days", worked);
        return names.give(texts.get(terms).text);
    }

    /** The terms in force that give less; -1: none. */
    private int lesser(Order o, int use, int k, Texts names) {
        List<Integer> force = new ArrayList<>();
        for (int i = 0; i < texts.size(); i++) {
            Text t = texts.get(i);
            if (t.use == use && t.made <= k && t.from <= o.begin / 24) {
                force.add(i);
            }
        }
        if (force.isEmpty()) {
            return -1;
        }
        int last = force.get(force.size() - 1), ahead = force.get(Math.max(0, force.size() - 2));
        return names.give(texts.get(ahead).text) < names.give(texts.get(last).text) ? ahead : last;
    }

    private int price(Order o, int use, int k, Texts names) {
        int terms = lesser(o, use, k, names);
        return terms < 0 ? 0 : names.give(texts.get(terms).text);
    }

    int bill(int order, int k, int what) {
        if (!has(orders, order) || !in(k, 0, 999) || !in(what, 0, 5) || !begun(orders.get(order))) {
            return VOID;
        }
        Order o = orders.get(order);
        Texts names = names(o);
        if (what == 3 || what == 4) {
            names.put("days", worked(o, what - 2));
        }
        int price = price(o, 0, k, names), damage = price(o, 1, k, names);
        return new int[] {price, damage, price + damage, price, price, lesser(o, 0, k, names)}[what];
    }

    int next(int order, int n) {
        if (!has(orders, order) || !in(n, 1, 60)) {
            return BAD;
        }
        Order o = orders.get(order);
        if (!begun(o)) {
            return NOT;
        }
        Texts names = names(o);
        int[] prices = new int[7];
        for (int i = 0; i < 7; i++) {
            names.all(n + i);
            names.put("days", n + i);
            prices[i] = price(o, 0, hour / 24, names);
            if (prices[i] < prices[0]) {
                return n + i;
            }
        }
        return NOT;
    }

    private boolean mayTell(Order o, int which) {
        if (which == 0) {
            return o.state == 1 || o.state == 2;
        }
        return o.state == 3 && !sent.subList(o.sentAs, sent.size()).contains(o.machine);
    }

    int looked(int order, int which, int marks) {
        if (!has(orders, order) || !in(which, 0, 1) || !in(marks, 0, 65535)) {
            return BAD;
        }
        Order o = orders.get(order);
        if (!mayTell(o, which) || o.looks[which] >= 0) {
            return NOT;
        }
        o.looks[which] = marks;
        return 1;
    }

    int fuel(int order, int which, int litres) {
        if (!has(orders, order) || !in(which, 0, 1) || !in(litres, 0, 999)) {
            return BAD;
        }
        Order o = orders.get(order);
        if (!mayTell(o, which) || o.litres[which] >= 0) {
            return NOT;
        }
        o.litres[which] = litres;
        return 1;
    }

    int harm(int order, int what) {
        if (!has(orders, order) || !in(what, 0, 2)) {
            return BAD;
        }
        Order o = orders.get(order);
        boolean looked = o.looks[0] >= 0 && o.looks[1] >= 0, filled = o.litres[0] >= 0 && o.litres[1] >= 0;
        int marks = 0, coins = 0;
        for (int i = 0; i < 16; i++) {
            if (looked && (o.looks[1] & 1 << i) > 0 && (o.looks[0] & 1 << i) == 0) {
                marks += 1 << i;
                coins += costs[o.machine.type][i];
            }
        }
        return new int[] {marks, coins, filled && o.litres[0] > o.litres[1] ? o.litres[0] - o.litres[1] : 0}[what];
    }

    // ---- chains, idle ones

    int share(int order, int i) {
        if (!has(orders, order) || !begun(orders.get(order)) || !has(orders.get(order).machine.links, i)) {
            return VOID;
        }
        Order o = orders.get(order);
        List<int[]> links = o.machine.links;
        int share = links.get(i)[1] * worked(o, 3);
        return has(links, i + 1) ? share - links.get(i + 1)[1] * worked(o, 3) : share;
    }

    int chain(int machine, int i, int what) {
        if (!has(machines, machine) || !has(machines.get(machine).links, i) || !in(what, 0, 1)) {
            return BAD;
        }
        List<int[]> links = machines.get(machine).links;
        if (what == 0) {
            return links.get(i)[0];
        }
        return has(links, i + 1) && links.get(i)[1] < links.get(i + 1)[1] ? 1 : 0;
    }

    int rank(int machine, int i) {
        if (!has(machines, machine) || !has(machines.get(machine).links, i)) {
            return BAD;
        }
        List<int[]> links = machines.get(machine).links;
        return links.get(links.size() - 1 - i)[0];
    }

    int idle(int type, int town, int what) {
        if (!has(types, type) || !has(yards, town) || !in(what, 0, 1)) {
            return BAD;
        }
        if (what == 0) {
            return (int) machines.stream().filter(m -> m.type == type && m.town == town && isIdle(m)).count();
        }
        return (int) orders.stream().filter(o -> o.type == type && townOf(o) == town && hour - o.came < 720).count();
    }

    int move(int type) {
        if (!has(types, type)) {
            return BAD;
        }
        int[] best = {0, -1, 0, -1};
        for (int town = 0; town < yards.size(); town++) {
            int spare = isYard(town) ? idle(type, town, 0) - idle(type, town, 1) : 0;
            if (spare > best[0]) {
                best[0] = spare;
                best[1] = town;
            }
            if (spare < best[2]) {
                best[2] = spare;
                best[3] = town;
            }
        }
        return best[1] < 0 || best[3] < 0 ? NOT : 100 * best[1] + best[3];
    }

    int count(int what) {
        if (!in(what, 0, 13)) {
            return BAD;
        }
        int out = (int) machines.stream().filter(m -> where(m) == 2).count();
        int loads = (int) machines.stream().filter(m -> where(m) == 1).count();
        int waits = (int) orders.stream().filter(o -> o.state == 0).count();
        int done = (int) orders.stream().filter(o -> o.state == 3).count();
        return new int[] {yards.size(), types.size(), machines.size(), customers.size(), orders.size(), hour, texts.size(),
            toldReadings, tracks.size(), out, loads, tape.length(), waits, done}[what];
    }
}
