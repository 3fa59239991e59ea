import java.util.Arrays;

/** A hire yard's machines by the day, as ../shared/DOC.md tells. */
public final class HireYard {
    public static final int BAD = -1, NOT = -2, FULL = -3, BIG = -4, VOID = -2000000000;

    private static final int DAY = 24, LAST_HOUR = 23999, DAYS_TOLD = 1000;
    private static final int MOST_TOWNS = 12, MOST_TYPES = 15, MOST_MACHINES = 90;
    private static final int MOST_CUSTOMERS = 30, MOST_ORDERS = 100, MOST_READINGS = 400;
    private static final int MOST_METER = 99999, MARKS = 16, DAYS_SAID = 60;
    private static final int WANTED_HOURS = 30 * DAY;

    /** WHERE a machine is. */
    private static final int AT_YARD = 0, ON_LOAD = 1, AT_CUSTOMER = 2, NOWHERE = 3;
    /** STATES of a machine. */
    private static final int READY = 0, IN_LOOK = 1, BROKEN = 2, SOLD = 3, STOLEN = 4;
    /** STATES of an order. */
    private static final int WAITS = 0, PROMISED = 1, OUT = 2, DONE = 3, GONE = 4;
    /** What is known of a DAY of a hire. */
    private static final int SURELY_NOT = 0, SURELY_WORKED = 1, COUNTED = 2, NOT_COUNTED = 3;
    /** Which DAYS WORKED are asked for. */
    private static final int LEAST = 1, MOST = 2, AS_COUNTED = 3;

    private int hour;
    private int readings;
    private final boolean[] rainy = new boolean[DAYS_TOLD];
    private final Roads roads = new Roads();
    private final Kind[] kinds = new Kind[MOST_TYPES];
    private int kindCount;
    private final Machine[] machines = new Machine[MOST_MACHINES];
    private int machineCount;
    private final int[] customerTowns = new int[MOST_CUSTOMERS];
    private final int[] customerPapers = new int[MOST_CUSTOMERS];
    private int customerCount;
    private final Order[] orders = new Order[MOST_ORDERS];
    private int orderCount;
    private final Log log = new Log();
    private final Match match = new Match();
    private final Lorry lorry = new Lorry();
    private final Tape tape = new Tape();
    private final Bills bills = new Bills();

    public HireYard() {
        hour = 0;
    }

    // ---- towns, time

    public int town(int yard) {
        return isFlag(yard) ? roads.found(yard) : BAD;
    }

    public int road(int a, int b, int miles) {
        if (!roads.has(a) || !roads.has(b) || a == b || !within(miles, 1, 300)) {
            return BAD;
        }
        return roads.lay(a, b, miles);
    }

    public int far(int a, int b) {
        if (!roads.has(a) || !roads.has(b)) {
            return BAD;
        }
        int miles = roads.way(a, b);
        return miles < 0 ? NOT : miles;
    }

    public int hours(int n) {
        if (!within(n, 1, 240) || hour + n > LAST_HOUR) {
            return BAD;
        }
        hour += n;
        for (int i = 0; i < MOST_MACHINES; i++) {
            Machine m = machineOf(i);
            if (m != null) {
                m.settle(hour);
            }
        }
        return hour;
    }

    public int rain(int day, int is) {
        if (!within(day, 0, DAYS_TOLD - 1) || !isFlag(is)) {
            return BAD;
        }
        int was = rainy[day] ? 1 : 0;
        rainy[day] = is == 1;
        return was;
    }

    // ---- types, machines

    public int type(int what, int rate, int needs, int worth) {
        boolean fits = within(what, 1000, 99999) && within(rate, 1, 9999)
            && within(needs, 0, 997) && needs % 10 <= 7 && within(worth, 0, 99999);
        if (!fits) {
            return BAD;
        }
        if (kindCount >= MOST_TYPES) {
            return FULL;
        }
        kinds[kindCount] = new Kind(kindCount, what, rate, needs % 10, worth);
        return kindCount++;
    }

    public int instead(int type, int other, int is) {
        Kind kind = kindOf(type);
        if (kind == null || kindOf(other) == null || type == other || !isFlag(is)) {
            return BAD;
        }
        int was = kind.goesFor[other] ? 1 : 0;
        kind.goesFor[other] = is == 1;
        return was;
    }

    public int mark(int type, int mark, int cost) {
        Kind kind = kindOf(type);
        if (kind == null || !within(mark, 0, MARKS - 1) || !within(cost, 0, 9999)) {
            return BAD;
        }
        int was = kind.costs[mark];
        kind.costs[mark] = cost;
        return was;
    }

    public int machine(int type, int town, int meter) {
        Kind kind = kindOf(type);
        if (kind == null || !roads.hasYard(town) || !within(meter, 0, MOST_METER)) {
            return BAD;
        }
        if (machineCount >= MOST_MACHINES) {
            return FULL;
        }
        machines[machineCount] = new Machine(machineCount, kind, town, hour, meter);
        return machineCount++;
    }

    public int link(int machine, int owner, int rate) {
        Machine m = machineOf(machine);
        if (m == null || !within(owner, 0, 9) || !within(rate, 1, 9999)) {
            return BAD;
        }
        return m.addLink(owner, rate);
    }

    public int ofMachine(int machine, int what) {
        Machine m = machineOf(machine);
        if (m == null) {
            return VOID;
        }
        switch (what) {
            case 0: return m.kind.number;
            case 1: return m.meter.last();
            case 2: return m.where;
            case 3: return m.town;
            case 4: return m.state;
            case 5: return m.sinceLook();
            case 6: return m.till;
            case 7: return m.order == null ? -1 : m.order.number;
            case 8: return m.links;
            case 9: return m.hoursToLook();
            default: return VOID;
        }
    }

    public int look(int machine, int n) {
        Machine m = machineOf(machine);
        if (m == null || !within(n, 1, 99)) {
            return BAD;
        }
        if (!m.isFree()) {
            return NOT;
        }
        m.beginLook(hour + n);
        return 1;
    }

    public int broken(int machine, int is) {
        Machine m = machineOf(machine);
        if (m == null || !isFlag(is)) {
            return BAD;
        }
        if (m.state != (is == 1 ? READY : BROKEN)) {
            return NOT;
        }
        if (is == 0) {
            m.state = READY;
            log.endBreak(m.number, hour);
            return 1;
        }
        if (!log.beginBreak(m.number, hour)) {
            return FULL;
        }
        m.state = BROKEN;
        return 1;
    }

    public int gone(int machine, int state) {
        Machine m = machineOf(machine);
        if (m == null || (state != SOLD && state != STOLEN)) {
            return BAD;
        }
        if (m.where == NOWHERE || (state == SOLD && !m.isFree())) {
            return NOT;
        }
        if (m.state == BROKEN) {
            log.endBreak(m.number, hour);
        }
        if (m.order != null) {
            m.order.loseMachine(hour);
        }
        m.leave(state, hour);
        return 1;
    }

    public int read(int machine, int meter) {
        Machine m = machineOf(machine);
        if (m == null || meter < m.meter.last() || meter > MOST_METER) {
            return BAD;
        }
        if (m.where == NOWHERE) {
            return NOT;
        }
        boolean another = m.meter.isAnother(hour);
        if (another && readings >= MOST_READINGS) {
            return FULL;
        }
        m.meter.tell(hour, meter);
        if (another) {
            readings++;
        }
        return meter;
    }

    public int track(int machine, int town) {
        if (machineOf(machine) == null || !roads.has(town)) {
            return BAD;
        }
        return log.addTrack(machine, town, hour);
    }

    public int theft(int machine, int what) {
        Machine m = machineOf(machine);
        if (m == null || !within(what, 0, 2)) {
            return BAD;
        }
        if (m.state != STOLEN) {
            return NOT;
        }
        if (what == 2) {
            return m.lostFrom;
        }
        return what == 0 ? log.lastThere(m) : log.firstElsewhere(m);
    }

    // ---- customers, orders

    public int customer(int town, int papers) {
        if (!roads.has(town) || !within(papers, 0, 255)) {
            return BAD;
        }
        if (customerCount >= MOST_CUSTOMERS) {
            return FULL;
        }
        customerTowns[customerCount] = town;
        customerPapers[customerCount] = papers;
        return customerCount++;
    }

    public int order(int customer, int type, int from, int days, int work) {
        Kind kind = kindOf(type);
        boolean fits = kind != null && isCustomer(customer) && within(from, hour, LAST_HOUR)
            && within(days, 1, 60) && within(work, 1, DAY);
        if (!fits) {
            return BAD;
        }
        if (orderCount >= MOST_ORDERS) {
            return FULL;
        }
        Order o = new Order(orderCount, kind, from, days, work, hour);
        o.customer = customer;
        o.town = customerTowns[customer];
        o.papers = customerPapers[customer];
        orders[orderCount] = o;
        return orderCount++;
    }

    public int why(int machine, int order) {
        Machine m = machineOf(machine);
        Order o = orderOf(order);
        return m == null || o == null ? BAD : o.objection(m, hour, roads);
    }

    public int list(int order) {
        Order o = orderOf(order);
        return o == null ? BAD : match.add(o);
    }

    public int best() {
        if (match.listed == 0) {
            return NOT;
        }
        match.begin();
        for (int i = 0; i < MOST_MACHINES; i++) {
            Machine m = machineOf(i);
            if (m != null) {
                match.offer(m, hour, roads);
            }
        }
        return match.promise(machines, roads);
    }

    public int miles() {
        return match.miles;
    }

    public int round() {
        return lorry.drive(roads);
    }

    public int stop(int machine) {
        Machine m = machineOf(machine);
        return m == null ? BAD : lorry.add(m);
    }

    public int stopped(int i) {
        Machine m = lorry.rowAt(i);
        return m == null ? BAD : m.number;
    }

    public int send(int order) {
        Order o = orderOf(order);
        if (o == null) {
            return BAD;
        }
        Machine m = o.machine;
        if (o.state != PROMISED || m == null || m.state != READY) {
            return NOT;
        }
        int ride = roads.rideHours(m.town, o.town);
        if (ride < 0) {
            return NOT;
        }
        o.state = OUT;
        o.begin = Math.max(hour + ride, o.from);
        m.lastSent = o;
        m.load(o.town, hour, ride);
        return hour + ride;
    }

    public int fetch(int order, int town) {
        Order o = orderOf(order);
        if (o == null || !roads.hasYard(town)) {
            return BAD;
        }
        Machine m = o.machine;
        if (o.state != OUT || !o.begun(hour) || m == null) {
            return NOT;
        }
        int ride = roads.rideHours(m.town, town);
        if (ride < 0) {
            return NOT;
        }
        o.finish(hour);
        m.order = null;
        m.load(town, hour, ride);
        return hour + ride;
    }

    public int off(int order) {
        Order o = orderOf(order);
        if (o == null) {
            return BAD;
        }
        if (o.state != WAITS && o.state != PROMISED) {
            return NOT;
        }
        if (o.machine != null) {
            o.machine.order = null;
        }
        o.machine = null;
        o.state = GONE;
        return 1;
    }

    public int ofOrder(int order, int what) {
        Order o = orderOf(order);
        if (o == null) {
            return VOID;
        }
        switch (what) {
            case 0: return o.customer;
            case 1: return o.kind.number;
            case 2: return o.from;
            case 3: return o.length;
            case 4: return o.work;
            case 5: return o.state;
            case 6: return o.machine == null ? -1 : o.machine.number;
            case 7: return o.begin;
            case 8: return o.ended;
            case 9: return o.came;
            default: return VOID;
        }
    }

    // ---- days, bills

    public int said(int order, int i, int worked) {
        Order o = orderOf(order);
        if (o == null || !within(i, 0, DAYS_SAID - 1) || !isFlag(worked)) {
            return BAD;
        }
        if (!o.begun(hour)) {
            return NOT;
        }
        o.saidNot[i] = worked == 0;
        return 1;
    }

    public int days(int order, int what) {
        Order o = begunOrder(order);
        if (o == null || !within(what, 0, AS_COUNTED)) {
            return VOID;
        }
        return what == 0 ? o.dayCount(hour) : o.daysWorked(what, hour);
    }

    public int dayOf(int order, int i) {
        Order o = begunOrder(order);
        if (o == null || i < 0 || i >= o.dayCount(hour)) {
            return BAD;
        }
        return o.knownOfDay(i, hour);
    }

    public int feed(int a, int b, int c, int d, int e) {
        if (!tape.hasRoom()) {
            return FULL;
        }
        tape.append(a);
        tape.append(b);
        tape.append(c);
        tape.append(d);
        tape.append(e);
        return tape.length;
    }

    public int end(int n) {
        if (!within(n, 0, tape.length)) {
            return BAD;
        }
        tape.length = n;
        return n;
    }

    public int terms(int use, int from) {
        if (!isFlag(use) || !within(from, 0, DAYS_TOLD - 1)) {
            return BAD;
        }
        if (bills.isFull()) {
            return FULL;
        }
        int fault = tape.compile();
        tape.length = 0;
        if (fault >= 0) {
            return -100 - fault;
        }
        return bills.add(new Terms(use, from, hour / DAY, tape.copyOfCode()));
    }

    public int gives(int terms, int order, int worked) {
        Order o = begunOrder(order);
        if (o == null || !bills.has(terms) || !within(worked, 0, 999)) {
            return VOID;
        }
        learn(o);
        bills.setDays(worked);
        return bills.amount(terms);
    }

    public int bill(int order, int k, int what) {
        Order o = begunOrder(order);
        if (o == null || !within(k, 0, DAYS_TOLD - 1) || !within(what, 0, 5)) {
            return VOID;
        }
        learn(o);
        int day = o.begin / DAY;
        switch (what) {
            case 0: return bills.amount(bills.inForce(0, k, day));
            case 1: return bills.amount(bills.inForce(1, k, day));
            case 2: return bills.amount(bills.inForce(0, k, day)) + bills.amount(bills.inForce(1, k, day));
            case 5: return bills.inForce(0, k, day);
            default:
                bills.setDays(o.daysWorked(what == 3 ? LEAST : MOST, hour));
                return bills.amount(bills.inForce(0, k, day));
        }
    }

    public int next(int order, int n) {
        Order o = orderOf(order);
        if (o == null || !within(n, 1, 60)) {
            return BAD;
        }
        if (!o.begun(hour)) {
            return NOT;
        }
        learn(o);
        int price = priceOf(o, n);
        for (int step = n + 1; step <= n + 6; step++) {
            if (priceOf(o, step) < price) {
                return step;
            }
        }
        return NOT;
    }

    public int looked(int order, int which, int marks) {
        Order o = orderOf(order);
        if (o == null || !isFlag(which) || !within(marks, 0, 65535)) {
            return BAD;
        }
        return o.tell(o.marks, which, marks);
    }

    public int fuel(int order, int which, int litres) {
        Order o = orderOf(order);
        if (o == null || !isFlag(which) || !within(litres, 0, 999)) {
            return BAD;
        }
        return o.tell(o.litres, which, litres);
    }

    public int harm(int order, int what) {
        Order o = orderOf(order);
        if (o == null) {
            return BAD;
        }
        switch (what) {
            case 0: return o.newMarks();
            case 1: return o.harmCoins();
            case 2: return o.litresMissing();
            default: return BAD;
        }
    }

    // ---- chains, idle ones

    public int share(int order, int i) {
        Order o = begunOrder(order);
        if (o == null || o.machine == null || i < 0 || i >= o.machine.links) {
            return VOID;
        }
        Machine m = o.machine;
        return (m.rateOf(i) - m.rateOf(i + 1)) * o.daysWorked(AS_COUNTED, hour);
    }

    public int chain(int machine, int i, int what) {
        Machine m = machineOf(machine);
        if (m == null || i < 0 || i >= m.links || !isFlag(what)) {
            return BAD;
        }
        if (what == 0) {
            return m.ownerOf(i);
        }
        return m.rateOf(i) < m.rateOf(i + 1) ? 1 : 0;
    }

    public int rank(int machine, int i) {
        Machine m = machineOf(machine);
        if (m == null || i < 0 || i >= m.links) {
            return BAD;
        }
        return m.ownerOf(m.links - 1 - i);
    }

    public int idle(int type, int town, int what) {
        Kind kind = kindOf(type);
        if (kind == null || !roads.has(town) || !isFlag(what)) {
            return BAD;
        }
        return what == 0 ? idleIn(kind, town) : wantedIn(kind, town);
    }

    public int move(int type) {
        Kind kind = kindOf(type);
        if (kind == null) {
            return BAD;
        }
        int from = -1, to = -1, mostSpare = 0, mostLack = 0;
        for (int town = 0; town < MOST_TOWNS; town++) {
            if (roads.hasYard(town)) {
                int spare = idleIn(kind, town) - wantedIn(kind, town);
                if (spare > mostSpare) {
                    mostSpare = spare;
                    from = town;
                }
                if (-spare > mostLack) {
                    mostLack = -spare;
                    to = town;
                }
            }
        }
        return from < 0 || to < 0 ? NOT : 100 * from + to;
    }

    public int count(int what) {
        switch (what) {
            case 0: return roads.towns;
            case 1: return kindCount;
            case 2: return machineCount;
            case 3: return customerCount;
            case 4: return orderCount;
            case 5: return hour;
            case 6: return bills.made;
            case 7: return readings;
            case 8: return log.tracks;
            case 9: return machinesThatAre(AT_CUSTOMER);
            case 10: return machinesThatAre(ON_LOAD);
            case 11: return tape.length;
            case 12: return ordersThatAre(WAITS);
            case 13: return ordersThatAre(DONE);
            default: return BAD;
        }
    }

    private static boolean within(int x, int least, int most) {
        return x >= least && x <= most;
    }

    private static boolean isFlag(int x) {
        return x == 0 || x == 1;
    }

    private Kind kindOf(int i) {
        return i >= 0 && i < kinds.length ? kinds[i] : null;
    }

    private Machine machineOf(int i) {
        return i >= 0 && i < machines.length ? machines[i] : null;
    }

    private Order orderOf(int i) {
        return i >= 0 && i < orders.length ? orders[i] : null;
    }

    private boolean isCustomer(int i) {
        return i >= 0 && i < customerCount;
    }

    /** The order if its hire has begun, else null. */
    private Order begunOrder(int i) {
        Order o = orderOf(i);
        return o != null && o.begun(hour) ? o : null;
    }

    private void learn(Order o) {
        bills.learn(o, hour);
        bills.learnTroubles(o, hour, rainy, log);
    }

    private int priceOf(Order o, int days) {
        bills.setAll(o, days);
        return bills.amount(bills.inForce(0, hour / DAY, o.begin / DAY));
    }

    private int idleIn(Kind kind, int town) {
        int sum = 0;
        for (int i = 0; i < MOST_MACHINES; i++) {
            Machine m = machineOf(i);
            if (m != null && m.kind == kind && m.town == town && m.isFree()) {
                sum++;
            }
        }
        return sum;
    }

    private int wantedIn(Kind kind, int town) {
        int sum = 0;
        for (int i = 0; i < MOST_ORDERS; i++) {
            Order o = orderOf(i);
            if (o != null && o.kind == kind && o.town == town && hour - o.came < WANTED_HOURS) {
                sum++;
            }
        }
        return sum;
    }

    private int machinesThatAre(int where) {
        int sum = 0;
        for (int i = 0; i < MOST_MACHINES; i++) {
            Machine m = machineOf(i);
            if (m != null && m.where == where) {
                sum++;
            }
        }
        return sum;
    }

    private int ordersThatAre(int state) {
        int sum = 0;
        for (int i = 0; i < MOST_ORDERS; i++) {
            Order o = orderOf(i);
            if (o != null && o.state == state) {
                sum++;
            }
        }
        return sum;
    }

    /** The towns, their yards and the miles between them. */
    private static final class Roads {
        private static final int MILES_AN_HOUR = 30;
        private final boolean[] yards = new boolean[MOST_TOWNS];
        /** The least miles told between two; 0: none told. */
        private final int[][] told = new int[MOST_TOWNS][MOST_TOWNS];
        /** FAR; -1: no way. */
        private final int[][] least = new int[MOST_TOWNS][MOST_TOWNS];
        private int towns;

        int found(int yard) {
            if (towns >= MOST_TOWNS) {
                return FULL;
            }
            yards[towns] = yard == 1;
            for (int i = 0; i < towns; i++) {
                least[i][towns] = -1;
                least[towns][i] = -1;
            }
            return towns++;
        }

        boolean has(int town) {
            return town >= 0 && town < towns;
        }

        boolean hasYard(int town) {
            return has(town) && yards[town];
        }

        int lay(int a, int b, int miles) {
            if (!has(a) || !has(b)) {
                return BAD;
            }
            if (told[a][b] == 0 || miles < told[a][b]) {
                told[a][b] = miles;
                told[b][a] = miles;
                // A least way takes a new road once at most, so one pass over all pairs is enough.
                for (int i = 0; i < towns; i++) {
                    for (int j = 0; j < towns; j++) {
                        shorten(i, j, least[i][a], miles, least[b][j]);
                        shorten(i, j, least[i][b], miles, least[a][j]);
                    }
                }
            }
            return told[a][b];
        }

        private void shorten(int i, int j, int before, int miles, int after) {
            if (before < 0 || after < 0 || !has(i) || !has(j)) {
                return;
            }
            int sum = before + miles + after;
            if (least[i][j] < 0 || sum < least[i][j]) {
                least[i][j] = sum;
            }
        }

        /** FAR between two towns, or -1 if there is no way. */
        int way(int a, int b) {
            return has(a) && has(b) ? least[a][b] : -1;
        }

        /** The hours that a load takes, or -1 if there is no way. */
        int rideHours(int a, int b) {
            int miles = way(a, b);
            return miles < 0 ? -1 : (miles + MILES_AN_HOUR - 1) / MILES_AN_HOUR;
        }
    }

    /** A TYPE. What FUEL an hour of work takes is told, but asked for by no call: it isn't kept. */
    private static final class Kind {
        private final int number, weight, lookEvery, rate, paper, worth;
        private final int[] costs = new int[MARKS];
        private final boolean[] goesFor = new boolean[MOST_TYPES];

        Kind(int number, int what, int rate, int paper, int worth) {
            this.number = number;
            this.weight = what / 1000;
            this.lookEvery = what % 1000;
            this.rate = rate;
            this.paper = paper;
            this.worth = worth;
        }

        boolean standsFor(Kind other) {
            return other != null && (other == this || goesFor[other.number]);
        }
    }

    /** The READINGS of one machine, by rising hours. */
    private static final class Meter {
        private int[] hours = new int[4];
        private int[] values = new int[4];
        private int size;
        /** The first one is still the METER as the machine came, which is none of the 400. */
        private boolean asItCame;

        Meter(int hour, int value) {
            hours[0] = hour;
            values[0] = value;
            size = 1;
            asItCame = true;
        }

        int size() {
            return size;
        }

        int last() {
            return valueAt(size - 1);
        }

        /** METER of a reading; of none 0. */
        int valueAt(int i) {
            return i >= 0 && i < size ? values[i] : 0;
        }

        private boolean toldAt(int hour) {
            return size > 0 && hours[size - 1] == hour;
        }

        /** Whether a reading told at this hour would be one more of the 400. */
        boolean isAnother(int hour) {
            return !toldAt(hour) || (size == 1 && asItCame);
        }

        void tell(int hour, int value) {
            if (!toldAt(hour)) {
                grow();
                hours[size] = hour;
                size++;
            } else if (size == 1) {
                asItCame = false;
            }
            values[size - 1] = value;
        }

        private void grow() {
            if (size == hours.length) {
                hours = Arrays.copyOf(hours, 2 * size);
                values = Arrays.copyOf(values, 2 * size);
            }
        }

        /** The latest reading at an hour or ahead of it; -1: none. */
        int latestUpTo(int hour) {
            int low = 0, high = size;
            for (int halvings = 0; halvings < 32 && low < high; halvings++) {
                int middle = (low + high) >>> 1;
                if (hours[middle] <= hour) {
                    low = middle + 1;
                } else {
                    high = middle;
                }
            }
            return low - 1;
        }

        /** The earliest reading at an hour or behind it; size: none. */
        int earliestFrom(int hour) {
            return latestUpTo(hour - 1) + 1;
        }
    }

    /** A MACHINE, and the chain of those from whom it is hired. */
    private static final class Machine {
        private static final int MOST_LINKS = 5;
        private final int number;
        private final Kind kind;
        private final Meter meter;
        private int where, town, state;
        /** The hour when it is there, or its look is done; -1: neither. */
        private int till = -1;
        /** The hour when it came to its town, or was loaded for it. */
        private int since;
        private int meterAtLook;
        /** The order for which it is promised or out. */
        private Order order;
        private Order lastSent;
        /** Of a stolen one: the town where it ought to be, and the hour of telling. */
        private int lostFrom = -1, lostAt = -1;
        private final int[] owners = new int[MOST_LINKS];
        private final int[] rates = new int[MOST_LINKS];
        private int links;

        Machine(int number, Kind kind, int town, int hour, int meter) {
            this.number = number;
            this.kind = kind;
            this.town = town;
            this.since = hour;
            this.meter = new Meter(hour, meter);
        }

        boolean isFree() {
            return state == READY && where == AT_YARD && order == null;
        }

        int sinceLook() {
            return meter.last() - meterAtLook;
        }

        int hoursToLook() {
            return kind.lookEvery == 0 ? -1 : Math.max(0, kind.lookEvery - sinceLook());
        }

        boolean lookDue() {
            return kind.lookEvery > 0 && sinceLook() >= kind.lookEvery;
        }

        boolean lookLapses(int work) {
            return kind.lookEvery > 0 && sinceLook() + work > kind.lookEvery;
        }

        void beginLook(int end) {
            state = IN_LOOK;
            till = end;
            meterAtLook = meter.last();
        }

        void load(int toTown, int hour, int ride) {
            where = ON_LOAD;
            town = toTown;
            since = hour;
            till = hour + ride;
            settle(hour);
        }

        void settle(int hour) {
            if (till < 0 || till > hour) {
                return;
            }
            if (where == ON_LOAD) {
                where = order == null ? AT_YARD : AT_CUSTOMER;
                since = till;
            } else if (state == IN_LOOK) {
                state = READY;
            }
            till = -1;
        }

        void leave(int newState, int hour) {
            lostFrom = town;
            lostAt = hour;
            state = newState;
            where = NOWHERE;
            town = -1;
            till = -1;
            order = null;
        }

        int addLink(int owner, int rate) {
            if (links >= MOST_LINKS) {
                return FULL;
            }
            owners[links] = owner;
            rates[links] = rate;
            links++;
            return links;
        }

        int ownerOf(int link) {
            return link >= 0 && link < links ? owners[link] : -1;
        }

        /** DAY RATE of a link; of none 0. */
        int rateOf(int link) {
            return link >= 0 && link < links ? rates[link] : 0;
        }
    }

    /** An ORDER and its HIRE. */
    private static final class Order {
        private final int number, from, length, work, came;
        private final Kind kind;
        private int customer, town, papers;
        private int state;
        private Machine machine;
        private int begin = -1, ended = -1;
        private final boolean[] saidNot = new boolean[DAYS_SAID];
        /** OUT and IN; -1: not told. */
        private final int[] marks = {-1, -1};
        private final int[] litres = {-1, -1};

        Order(int number, Kind kind, int from, int length, int work, int came) {
            this.number = number;
            this.kind = kind;
            this.from = from;
            this.length = length;
            this.work = work;
            this.came = came;
        }

        /** WHY a machine may not go for it; 0: it may. */
        int objection(Machine m, int hour, Roads roads) {
            if (m.state != READY || m.where != AT_YARD) {
                return 1;
            }
            if (!m.kind.standsFor(kind)) {
                return 2;
            }
            if ((papers >> m.kind.paper & 1) == 0) {
                return 3;
            }
            if (m.lookDue() || m.lookLapses(length * work)) {
                return 4;
            }
            int ride = roads.rideHours(m.town, town);
            if (ride < 0 || hour + ride > from) {
                return 5;
            }
            return m.order == null || m.order == this ? 0 : 6;
        }

        boolean begun(int hour) {
            return machine != null && (state == DONE || (state == OUT && hour >= begin));
        }

        boolean isSubstitute() {
            return machine != null && machine.kind != kind;
        }

        void promise(Machine m) {
            state = PROMISED;
            machine = m;
            m.order = this;
        }

        void finish(int hour) {
            state = DONE;
            ended = hour;
        }

        /** Its machine is stolen. */
        void loseMachine(int hour) {
            if (begun(hour)) {
                finish(hour);
                return;
            }
            state = WAITS;
            machine = null;
            begin = -1;
        }

        int endBy(int hour) {
            return ended < 0 ? hour : ended;
        }

        int dayCount(int hour) {
            return (endBy(hour) - begin + DAY - 1) / DAY;
        }

        int knownOfDay(int i, int hour) {
            if (machine == null) {
                return NOT_COUNTED;
            }
            Meter meter = machine.meter;
            int start = begin + DAY * i, end = Math.min(start + DAY, endBy(hour));
            int first = meter.earliestFrom(start), last = meter.latestUpTo(end);
            if (first < last && meter.valueAt(first) != meter.valueAt(last)) {
                return SURELY_WORKED;
            }
            int ahead = meter.latestUpTo(start), behind = meter.earliestFrom(end);
            boolean both = ahead >= 0 && behind < meter.size();
            if (both && meter.valueAt(ahead) == meter.valueAt(behind)) {
                return SURELY_NOT;
            }
            return i >= 0 && i < DAYS_SAID && saidNot[i] ? NOT_COUNTED : COUNTED;
        }

        /** DAYS WORKED: the least, the most, or as counted. */
        int daysWorked(int which, int hour) {
            int all = dayCount(hour), sum = 0;
            for (int i = 0; i < all; i++) {
                int known = knownOfDay(i, hour);
                boolean counts = known == SURELY_WORKED
                    || (known == COUNTED && which != LEAST)
                    || (known == NOT_COUNTED && which == MOST);
                if (counts) {
                    sum++;
                }
            }
            return sum;
        }

        /** Hours of work by the meter, up to the hire's end. */
        int hoursWorked(int hour) {
            if (machine == null) {
                return 0;
            }
            Meter meter = machine.meter;
            int atEnd = meter.valueAt(meter.latestUpTo(endBy(hour)));
            return atEnd - meter.valueAt(meter.latestUpTo(begin));
        }

        private boolean mayTell(int which) {
            if (which == 0) {
                return state == PROMISED || state == OUT;
            }
            return state == DONE && machine != null && machine.lastSent == this;
        }

        /** Tells marks or litres OUT (0) or IN (1), once each. */
        int tell(int[] row, int which, int value) {
            if (which < 0 || which >= row.length || row[which] >= 0 || !mayTell(which)) {
                return NOT;
            }
            row[which] = value;
            return 1;
        }

        int newMarks() {
            return marks[0] < 0 || marks[1] < 0 ? 0 : marks[1] & ~marks[0];
        }

        int harmCoins() {
            int found = newMarks(), sum = 0;
            for (int i = 0; i < MARKS && machine != null; i++) {
                if ((found >> i & 1) == 1) {
                    sum += machine.kind.costs[i];
                }
            }
            return sum;
        }

        int litresMissing() {
            return litres[0] < 0 || litres[1] < 0 ? 0 : Math.max(0, litres[0] - litres[1]);
        }
    }

    /** TRACKS of all machines and their spans of being BROKEN, as they were told. */
    private static final class Log {
        private static final int MOST_TRACKS = 300, MOST_BREAKS = 200;
        private final int[] trackMachine = new int[MOST_TRACKS];
        private final int[] trackTown = new int[MOST_TRACKS];
        private final int[] trackHour = new int[MOST_TRACKS];
        private int tracks;
        private final int[] breakMachine = new int[MOST_BREAKS];
        private final int[] breakFrom = new int[MOST_BREAKS];
        /** -1: it goes on. */
        private final int[] breakTo = new int[MOST_BREAKS];
        private int breaks;

        int addTrack(int machine, int town, int hour) {
            if (tracks >= MOST_TRACKS) {
                return FULL;
            }
            trackMachine[tracks] = machine;
            trackTown[tracks] = town;
            trackHour[tracks] = hour;
            tracks++;
            return tracks;
        }

        private boolean countsFor(Machine m, int i) {
            return trackMachine[i] == m.number && trackHour[i] >= m.since && trackHour[i] <= m.lostAt;
        }

        /** The first track of a stolen machine that shows it elsewhere; tracks: none. */
        private int elsewhere(Machine m) {
            for (int i = 0; i < tracks; i++) {
                if (countsFor(m, i) && trackTown[i] != m.lostFrom) {
                    return i;
                }
            }
            return tracks;
        }

        int firstElsewhere(Machine m) {
            int i = elsewhere(m);
            return i < tracks ? trackHour[i] : m.lostAt;
        }

        int lastThere(Machine m) {
            for (int i = elsewhere(m) - 1; i >= 0; i--) {
                if (countsFor(m, i)) {
                    return trackHour[i];
                }
            }
            return m.since;
        }

        boolean beginBreak(int machine, int hour) {
            if (breaks >= MOST_BREAKS) {
                return false;
            }
            breakMachine[breaks] = machine;
            breakFrom[breaks] = hour;
            breakTo[breaks] = -1;
            breaks++;
            return true;
        }

        void endBreak(int machine, int hour) {
            for (int i = 0; i < breaks; i++) {
                if (breakMachine[i] == machine && breakTo[i] < 0) {
                    breakTo[i] = hour;
                }
            }
        }

        int hoursBroken(int machine, int from, int to) {
            int sum = 0;
            for (int i = 0; i < breaks; i++) {
                if (breakMachine[i] == machine) {
                    int end = breakTo[i] < 0 ? to : Math.min(to, breakTo[i]);
                    sum += Math.max(0, end - Math.max(from, breakFrom[i]));
                }
            }
            return sum;
        }
    }

    /** THE LIST and BEST. */
    private static final class Match {
        private static final int MOST_LISTED = 6, NO_MACHINE = 90;
        private static final long NEVER = 4000000000000000000L;
        /*
         * The cost of a way is one number, so that the least of all is BEST: orders without a machine,
         * then miles, then substitutes, then the machines as digits (of 91, none as 90) by orders as
         * they came to the list. No part runs over into the one ahead: six ways of 3300 miles at most.
         */
        private static final long[] DIGIT = {6240321451L, 68574961L, 753571L, 8281L, 91L, 1L};
        private static final long DIGITS = 567869252041L, SUBSTITUTE = DIGITS;
        private static final long MILE = 8 * SUBSTITUTE, UNSERVED = 32768 * MILE;
        private final Order[] list = new Order[MOST_LISTED];
        private int listed;
        private int miles = BAD;
        /** By the set of orders that have a machine: the least cost. */
        private final long[] cheapest = new long[1 << MOST_LISTED];
        private final long[] costs = new long[MOST_LISTED];

        private boolean isListed(Order o) {
            for (int i = 0; i < listed; i++) {
                if (list[i] == o) {
                    return true;
                }
            }
            return false;
        }

        int add(Order o) {
            if (o.state != WAITS || isListed(o)) {
                return NOT;
            }
            if (listed >= MOST_LISTED) {
                return FULL;
            }
            list[listed] = o;
            listed++;
            return listed;
        }

        void begin() {
            Arrays.fill(cheapest, NEVER);
            cheapest[0] = 0;
        }

        /** Lets each set of orders take this machine for one of them. */
        void offer(Machine m, int hour, Roads roads) {
            boolean serves = false;
            for (int i = 0; i < listed; i++) {
                costs[i] = costOf(list[i], i, m, hour, roads);
                serves = serves || costs[i] < NEVER;
            }
            // Downwards, so that the lesser sets are still without this machine.
            for (int set = (1 << listed) - 1; serves && set > 0; set--) {
                for (int i = 0; i < listed; i++) {
                    int rest = set & ~(1 << i);
                    if (rest != set && costs[i] < NEVER && cheapest[rest] < NEVER) {
                        cheapest[set] = Math.min(cheapest[set], cheapest[rest] + costs[i]);
                    }
                }
            }
        }

        private static long costOf(Order o, int i, Machine m, int hour, Roads roads) {
            if (o == null || o.state != WAITS || o.objection(m, hour, roads) != 0) {
                return NEVER;
            }
            long cost = MILE * roads.way(m.town, o.town) + DIGIT[i] * m.number;
            return m.kind == o.kind ? cost : cost + SUBSTITUTE;
        }

        private long leastCost() {
            long least = NEVER;
            for (int set = 0; set < 1 << listed; set++) {
                long cost = cheapest[set];
                for (int i = 0; i < listed && cost < NEVER; i++) {
                    if ((set >> i & 1) == 0) {
                        cost += UNSERVED + DIGIT[i] * NO_MACHINE;
                    }
                }
                least = Math.min(least, cost);
            }
            return least;
        }

        /** Promises by the least cost and empties the list: how many get a machine. */
        int promise(Machine[] machines, Roads roads) {
            long digits = leastCost() % DIGITS;
            int served = 0;
            miles = 0;
            for (int i = 0; i < listed; i++) {
                Order o = list[i];
                int number = (int) (digits / DIGIT[i] % 91);
                if (o != null && number >= 0 && number < machines.length && machines[number] != null) {
                    o.promise(machines[number]);
                    miles += roads.way(machines[number].town, o.town);
                    served++;
                }
                list[i] = null;
            }
            listed = 0;
            return served;
        }
    }

    /** THE STOPS and ROUND. */
    private static final class Lorry {
        private static final int MOST_STOPS = 5, BEARS = 260;
        private final Machine[] stops = new Machine[MOST_STOPS];
        private int size;
        private final Machine[] row = new Machine[MOST_STOPS];
        private int rowSize;
        /** The row that is tried, by places in stops. */
        private final int[] turn = new int[MOST_STOPS];

        private static boolean isPromised(Machine m) {
            return m != null && m.order != null && m.order.state == PROMISED;
        }

        private boolean joins(Machine m) {
            for (int i = 0; i < size; i++) {
                if (stops[i] == m || stops[i] == null || stops[i].town != m.town) {
                    return false;
                }
            }
            return isPromised(m) && m.where == AT_YARD;
        }

        int add(Machine m) {
            if (!joins(m)) {
                return NOT;
            }
            if (size >= MOST_STOPS) {
                return FULL;
            }
            stops[size] = m;
            size++;
            return size;
        }

        int drive(Roads roads) {
            dropOthers();
            int stopCount = size;
            size = 0;
            if (stopCount == 0 || stops[0] == null) {
                return NOT;
            }
            if (weight(stopCount) > BEARS) {
                return BIG;
            }
            int home = stops[0].town;
            sortByNumber(stopCount);
            int least = -1;
            for (int i = 0; i < stopCount; i++) {
                turn[i] = i;
            }
            boolean more = true;
            for (int tries = 0; more && tries < 120; tries++) {
                int miles = rowMiles(roads, home, stopCount);
                if (miles >= 0 && (least < 0 || miles < least)) {
                    least = miles;
                    keepRow(stopCount);
                }
                more = nextTurn(stopCount);
            }
            return least < 0 ? FULL : least;
        }

        Machine rowAt(int i) {
            return i >= 0 && i < rowSize ? row[i] : null;
        }

        private void dropOthers() {
            int kept = 0;
            for (int i = 0; i < size; i++) {
                if (isPromised(stops[i])) {
                    stops[kept] = stops[i];
                    kept++;
                }
            }
            size = kept;
        }

        private int weight(int n) {
            int sum = 0;
            for (int i = 0; i < n; i++) {
                sum += stops[i] == null ? 0 : stops[i].kind.weight;
            }
            return sum;
        }

        private void sortByNumber(int n) {
            for (int i = 1; i < n; i++) {
                for (int j = i; j > 0; j--) {
                    Machine before = stops[j - 1], here = stops[j];
                    if (before != null && here != null && before.number > here.number) {
                        stops[j - 1] = here;
                        stops[j] = before;
                    }
                }
            }
        }

        /** Miles of the row from the yard and back; -1: no way. */
        private int rowMiles(Roads roads, int home, int n) {
            int at = home, sum = 0;
            for (int i = 0; i <= n; i++) {
                int to = i < n ? customerTown(turn[i]) : home;
                int miles = roads.way(at, to);
                if (miles < 0) {
                    return -1;
                }
                sum += miles;
                at = to;
            }
            return sum;
        }

        private int customerTown(int i) {
            Machine m = i >= 0 && i < stops.length ? stops[i] : null;
            return m == null || m.order == null ? -1 : m.order.town;
        }

        private void keepRow(int n) {
            for (int i = 0; i < n; i++) {
                row[i] = stops[turn[i]];
            }
            rowSize = n;
        }

        /** The next row by the machines' numbers; false: that was the last. */
        private boolean nextTurn(int n) {
            int i = n - 2;
            while (i >= 0 && turn[i] > turn[i + 1]) {
                i--;
            }
            if (i < 0) {
                return false;
            }
            int j = n - 1;
            while (j > i && turn[j] < turn[i]) {
                j--;
            }
            swapTurns(i, j);
            for (int low = i + 1, high = n - 1; low < high; low++, high--) {
                swapTurns(low, high);
            }
            return true;
        }

        private void swapTurns(int i, int j) {
            int kept = turn[i];
            turn[i] = turn[j];
            turn[j] = kept;
        }
    }

    /**
     * THE TAPE, and how its text becomes code. Code is a row of STEPS: the least and the most days
     * worked by which it counts, where its E ends, and E with each operator behind what it works on:
     * numbers as they are, NAMES and operators as numbers below 0.
     */
    private static final class Tape {
        private static final int MOST_BYTES = 200, MOST_OPEN = 8, MOST_DIGITS = 6, MOST_DAYS = 999999;
        /** By their places NAMES first, then the other words. */
        private static final String WORDS =
            "days all weeks rest rate hours over rain broken fuel harm worth own sub from up to least most ";
        private static final int NAMES = 14;
        /** Sorts of what the text is made of; words are their places, signs their bytes and 1000. */
        private static final int FROM = 14, UP = 15, TO = 16, LESSER = 17, GREATER = 18;
        private static final int NUMBER = 100, END = 101, WRONG = 102, SIGN = 1000;
        private static final int PLUS = SIGN + '+', MINUS = SIGN + '-', TIMES = SIGN + '*', OVER = SIGN + '/';
        private static final int OPEN = SIGN + '(', CLOSE = SIGN + ')', COMMA = SIGN + ',', PART = SIGN + ';';

        private final int[] bytes = new int[MOST_BYTES];
        private int length;
        private final int[] sorts = new int[MOST_BYTES + 1];
        private final int[] values = new int[MOST_BYTES + 1];
        private final int[] places = new int[MOST_BYTES + 1];
        private int tokens;
        private int at;
        private int fault;
        private final int[] code = new int[4 * MOST_BYTES];
        private int codeLength;

        boolean hasRoom() {
            return length + 20 <= MOST_BYTES;
        }

        void append(int four) {
            for (int shift = 24; shift >= 0 && length < MOST_BYTES; shift -= 8) {
                bytes[length] = four >>> shift & 255;
                length++;
            }
        }

        /** Makes the text into code; its fault's place, or -1. */
        int compile() {
            cut();
            at = 0;
            fault = -1;
            codeLength = 0;
            boolean more = true;
            for (int steps = 0; more && steps <= MOST_BYTES; steps++) {
                step();
                more = take(PART);
            }
            if (sort() != END) {
                fail();
            }
            return fault;
        }

        int[] copyOfCode() {
            return Arrays.copyOf(code, codeLength);
        }

        /** Parts the bytes into words, numbers and signs. */
        private void cut() {
            tokens = 0;
            int from = 0;
            for (int turns = 0; turns < MOST_BYTES && from < length; turns++) {
                int to = from + 1;
                if (isLetter(from)) {
                    while (to < length && isLetter(to)) {
                        to++;
                    }
                    addToken(wordSort(from, to), 0, from);
                } else if (isDigit(from)) {
                    while (to < length && isDigit(to)) {
                        to++;
                    }
                    addToken(to - from > MOST_DIGITS ? WRONG : NUMBER, numberOf(from, to), from);
                } else if (bytes[from] != ' ') {
                    addToken(SIGN + bytes[from], 0, from);
                }
                from = to;
            }
            addToken(END, 0, length);
        }

        private boolean isLetter(int i) {
            return i >= 0 && i < length && i < MOST_BYTES && bytes[i] >= 'a' && bytes[i] <= 'z';
        }

        private boolean isDigit(int i) {
            return i >= 0 && i < length && i < MOST_BYTES && bytes[i] >= '0' && bytes[i] <= '9';
        }

        private void addToken(int sort, int value, int place) {
            if (tokens < sorts.length) {
                sorts[tokens] = sort;
                values[tokens] = value;
                places[tokens] = place;
                tokens++;
            }
        }

        private int numberOf(int from, int to) {
            int sum = 0;
            for (int i = from; i < to && isDigit(i); i++) {
                sum = 10 * sum + bytes[i] - '0';
            }
            return sum;
        }

        /** The place of a word among WORDS; WRONG: it is none. */
        private int wordSort(int from, int to) {
            int word = 0, i = from;
            boolean same = true;
            for (int k = 0; k < WORDS.length(); k++) {
                char c = WORDS.charAt(k);
                if (c == ' ') {
                    if (same && i == to) {
                        return word;
                    }
                    word++;
                    i = from;
                    same = true;
                } else if (same && i < to && isLetter(i) && bytes[i] == c) {
                    i++;
                } else {
                    same = false;
                }
            }
            return WRONG;
        }

        private int sort() {
            return at >= 0 && at < tokens ? sorts[at] : END;
        }

        private boolean take(int sort) {
            if (fault >= 0 || sort() != sort) {
                return false;
            }
            at++;
            return true;
        }

        private void need(int sort) {
            if (sort() == sort) {
                at++;
            } else {
                fail();
            }
        }

        /** The first fault is the one that counts. */
        private void fail() {
            if (fault < 0) {
                fault = at >= 0 && at < tokens ? places[at] : length;
            }
        }

        private int number() {
            if (sort() != NUMBER || at >= values.length) {
                fail();
                return 0;
            }
            at++;
            return values[at - 1];
        }

        private void emit(int x) {
            if (codeLength < code.length) {
                code[codeLength] = x;
                codeLength++;
            }
        }

        private void step() {
            int least = 0, most = MOST_DAYS;
            if (take(FROM)) {
                least = number();
                if (take(TO)) {
                    most = number();
                } else {
                    need(UP);
                }
            }
            emit(least);
            emit(most);
            int head = codeLength;
            emit(0);
            sum(0);
            if (head < code.length) {
                code[head] = codeLength;
            }
        }

        private void sum(int open) {
            product(open);
            for (int left = tokens; left > 0 && fault < 0; left--) {
                int sign = sort();
                if (sign != PLUS && sign != MINUS) {
                    return;
                }
                at++;
                product(open);
                emit(-sign);
            }
        }

        private void product(int open) {
            operand(open);
            for (int left = tokens; left > 0 && fault < 0; left--) {
                int sign = sort();
                if (sign != TIMES && sign != OVER) {
                    return;
                }
                at++;
                operand(open);
                emit(-sign);
            }
        }

        private void operand(int open) {
            int sort = sort();
            boolean pair = sort == LESSER || sort == GREATER;
            if (sort == NUMBER) {
                emit(number());
                return;
            }
            if (sort >= 0 && sort < NAMES) {
                at++;
                emit(-1 - sort);
                return;
            }
            if (pair) {
                at++;
            }
            if (open >= MOST_OPEN || !take(OPEN)) {
                fail();
                return;
            }
            sum(open + 1);
            if (pair) {
                need(COMMA);
                sum(open + 1);
                emit(-sort);
            }
            need(CLOSE);
        }
    }

    /** TERMS: code of a use, the day of a hire's beginning from which on it is for, the day when it was made. */
    private static final class Terms {
        private static final int MOST_COINS = 9999999;
        private final int use, from, made;
        private final int[] code;

        Terms(int use, int from, int made, int[] code) {
            this.use = use;
            this.from = from;
            this.made = made;
            this.code = code;
        }

        boolean inForce(int ofUse, int asKnown, int day) {
            return use == ofUse && made <= asKnown && from <= day;
        }

        /** What the first step that counts gives. */
        int give(int[] names, int[] stack) {
            int worked = names[0];
            int at = 0;
            for (int steps = 0; steps < code.length && at + 2 < code.length; steps++) {
                int end = code[at + 2];
                if (worked >= code[at] && worked <= code[at + 1]) {
                    return Math.max(0, Math.min(MOST_COINS, run(at + 3, end, names, stack)));
                }
                at = end;
            }
            return 0;
        }

        private int run(int from, int to, int[] names, int[] stack) {
            int top = 0;
            for (int i = from; i >= 0 && i < to && i < code.length; i++) {
                int c = code[i];
                if (c >= 0 || -1 - c < names.length) {
                    if (top >= stack.length) {
                        return 0;
                    }
                    stack[top] = c >= 0 ? c : names[-1 - c];
                    top++;
                } else {
                    if (top < 2) {
                        return 0;
                    }
                    top--;
                    stack[top - 1] = work(-c, stack[top - 1], stack[top]);
                }
            }
            return top > 0 ? stack[top - 1] : 0;
        }

        private static int work(int operator, int a, int b) {
            switch (operator) {
                case Tape.PLUS: return a + b;
                case Tape.MINUS: return a - b;
                case Tape.TIMES: return a * b;
                case Tape.OVER: return b == 0 ? 0 : a / b;
                case Tape.LESSER: return Math.min(a, b);
                case Tape.GREATER: return Math.max(a, b);
                default: return 0;
            }
        }
    }

    /** All TERMS, and what their NAMES mean for the hire that is asked about. */
    private static final class Bills {
        private static final int MOST_TERMS = 16, DEEPEST = 64;
        private static final int DAYS = 0, ALL = 1, WEEKS = 2, REST = 3, RATE = 4, HOURS = 5, EXCESS = 6;
        private static final int RAIN = 7, HOURS_BROKEN = 8, FUEL = 9, HARM = 10, WORTH = 11, OWN = 12, SUB = 13;
        private final Terms[] texts = new Terms[MOST_TERMS];
        private int made;
        private final int[] names = new int[Tape.NAMES];
        private final int[] stack = new int[DEEPEST];

        boolean isFull() {
            return made >= MOST_TERMS;
        }

        boolean has(int i) {
            return i >= 0 && i < made && i < MOST_TERMS;
        }

        int add(Terms t) {
            if (isFull()) {
                return FULL;
            }
            texts[made] = t;
            return made++;
        }

        void learn(Order o, int hour) {
            names[HOURS] = o.hoursWorked(hour);
            setAll(o, o.dayCount(hour));
            names[DAYS] = o.daysWorked(AS_COUNTED, hour);
            names[RATE] = o.kind.rate;
            names[FUEL] = o.litresMissing();
            names[HARM] = o.harmCoins();
            names[WORTH] = o.machine == null ? 0 : o.machine.kind.worth;
            names[OWN] = o.machine == null || o.machine.links == 0 ? 1 : 0;
            names[SUB] = o.isSubstitute() ? 1 : 0;
        }

        void learnTroubles(Order o, int hour, boolean[] rainy, Log log) {
            int end = o.endBy(hour), wet = 0;
            for (int day = o.begin / DAY; day >= 0 && day < rainy.length && day * DAY < end; day++) {
                if (rainy[day] && end > o.begin) {
                    wet++;
                }
            }
            names[RAIN] = wet;
            names[HOURS_BROKEN] = o.machine == null ? 0 : log.hoursBroken(o.machine.number, o.begin, end);
        }

        void setDays(int days) {
            names[DAYS] = days;
        }

        /** Takes days for all, for those worked, and for what follows from them. */
        void setAll(Order o, int days) {
            names[DAYS] = days;
            names[ALL] = days;
            names[WEEKS] = days / 7;
            names[REST] = days % 7;
            names[EXCESS] = Math.max(0, names[HOURS] - days * o.work);
        }

        /** What terms give for the hire as learnt; of none 0. */
        int amount(int i) {
            Terms t = has(i) ? texts[i] : null;
            return t == null ? 0 : t.give(names, stack);
        }

        /** Of the two made last that are in force the one that gives less, of like ones the later; -1: none. */
        int inForce(int use, int asKnown, int day) {
            int found = 0, lesser = -1;
            for (int i = made - 1; i >= 0 && found < 2; i--) {
                Terms t = has(i) ? texts[i] : null;
                if (t != null && t.inForce(use, asKnown, day)) {
                    found++;
                    if (lesser < 0 || amount(i) < amount(lesser)) {
                        lesser = i;
                    }
                }
            }
            return lesser;
        }
    }
}
