import java.util.ArrayList;
import java.util.List;
import java.util.function.Supplier;
import java.util.function.ToIntFunction;

/** Of two like objects one is asked what has to be refused; whatever both are asked then, they answer alike. */
final class Twins {
    /** So many parts, each on objects of its own: none is used for more than 512 calls. */
    private static final int PARTS = 15;

    private final HireYard yard;
    private final List<Integer> row = new ArrayList<>();

    private Twins(HireYard yard) {
        this.yard = yard;
    }

    static void refused(Check check, String what, Supplier<Scene> made, ToIntFunction<HireYard> call, int due) {
        for (int part = 0; part < PARTS; part++) {
            Twins asked = new Twins(made.get().yard), other = new Twins(made.get().yard);
            check.is(what, call.applyAsInt(asked.yard), due);
            check.row(what + " changes nothing, part " + part, asked.answers(part), other.answers(part));
        }
    }

    private long[] answers(int part) {
        if (part < 9) {
            ask(part);
        } else {
            goOn(part);
        }
        return row.stream().mapToLong(x -> x).toArray();
    }

    private void add(int answer) {
        row.add(answer);
    }

    private int machines() {
        return Math.min(10, yard.count(2));
    }

    private int orders() {
        return Math.min(8, yard.count(4));
    }

    private void ask(int part) {
        switch (part) {
            case 0: askCounts(); break;
            case 1: askMachines(0, 5); break;
            case 2: askMachines(5, 10); break;
            case 3: askOrders(0, 4); break;
            case 4: askOrders(4, 8); break;
            case 5: askDays(); break;
            case 6: askBills(); break;
            case 7: askWhy(); break;
            default: askChains();
        }
    }

    private void askCounts() {
        for (int what = 0; what < 14; what++) {
            add(yard.count(what));
        }
        for (int type = 0; type < 2; type++) {
            add(yard.move(type));
            for (int town = 0; town < 3; town++) {
                add(yard.idle(type, town, 0));
                add(yard.idle(type, town, 1));
            }
        }
        add(yard.far(0, 1));
        add(yard.far(0, 2));
        add(yard.miles());
        add(yard.stopped(0));
        add(yard.stopped(1));
    }

    private void askMachines(int from, int to) {
        for (int i = from; i < Math.min(to, machines()); i++) {
            for (int what = 0; what < 10; what++) {
                add(yard.ofMachine(i, what));
            }
        }
    }

    private void askOrders(int from, int to) {
        for (int i = from; i < Math.min(to, orders()); i++) {
            for (int what = 0; what < 10; what++) {
                add(yard.ofOrder(i, what));
            }
        }
    }

    private void askDays() {
        for (int i = 0; i < orders(); i++) {
            for (int what = 0; what < 4; what++) {
                add(yard.days(i, what));
            }
            for (int what = 0; what < 3; what++) {
                add(yard.harm(i, what));
            }
        }
    }

    private void askBills() {
        for (int i = 0; i < orders(); i++) {
            add(yard.dayOf(i, 0));
            add(yard.share(i, 0));
            add(yard.share(i, 1));
            add(yard.gives(0, i, 3));
            add(yard.bill(i, 999, 0));
            add(yard.bill(i, 999, 1));
        }
    }

    private void askWhy() {
        for (int i = 0; i < machines(); i++) {
            for (int order = 0; order < orders(); order += 2) {
                add(yard.why(i, order));
            }
        }
    }

    private void askChains() {
        for (int i = 0; i < machines(); i++) {
            add(yard.theft(i, 0));
            add(yard.theft(i, 1));
            add(yard.chain(i, 0, 0));
            add(yard.chain(i, 1, 1));
            add(yard.rank(i, 0));
        }
    }

    /** What can't be asked shows when the calls go on. */
    private void goOn(int part) {
        switch (part) {
            case 9: goOnByList(); break;
            case 10: goOnByStops(); break;
            case 11: goOnByTape(); break;
            case 12: goOnByLooks(); break;
            case 13: goOnByTold(); break;
            default: goOnByHours();
        }
    }

    private void goOnByList() {
        add(yard.list(6));
        add(yard.best());
        add(yard.miles());
        add(yard.best());
        for (int i = 0; i < orders(); i++) {
            add(yard.ofOrder(i, 6));
        }
    }

    private void goOnByStops() {
        add(yard.stop(8));
        add(yard.round());
        for (int i = 0; i < 5; i++) {
            add(yard.stopped(i));
        }
        add(yard.round());
    }

    private void goOnByTape() {
        add(yard.terms(0, 0));
        add(yard.count(6));
        for (int i = 0; i < 4; i++) {
            add(yard.gives(i, 0, 7));
        }
        add(yard.end(0));
        add(yard.feed(1, 2, 3, 4, 5));
    }

    private void goOnByLooks() {
        for (int i = 0; i < orders(); i++) {
            add(yard.looked(i, 0, 1 << i));
            add(yard.looked(i, 1, 255));
            add(yard.fuel(i, 0, 500));
            add(yard.fuel(i, 1, 10 * i));
            add(yard.harm(i, 0));
            add(yard.harm(i, 2));
        }
    }

    private void goOnByTold() {
        add(yard.mark(0, 3, 1));
        add(yard.mark(1, 3, 1));
        add(yard.rain(0, 1));
        add(yard.rain(999, 1));
        add(yard.instead(0, 1, 1));
        add(yard.instead(1, 0, 1));
        add(yard.road(0, 1, 300));
        add(yard.town(1));
        add(yard.type(1000, 1, 0, 0));
        add(yard.customer(0, 0));
        add(yard.machine(0, 0, 0));
        add(yard.order(0, 0, 23999, 1, 1));
        add(yard.track(0, 0));
        for (int i = 0; i < machines(); i++) {
            add(yard.link(i, 1, 1));
            add(yard.broken(i, 1));
            add(yard.broken(i, 0));
            add(yard.read(i, 99999));
        }
    }

    private void goOnByHours() {
        add(yard.hours(240));
        for (int i = 0; i < machines(); i++) {
            add(yard.ofMachine(i, 2));
            add(yard.ofMachine(i, 3));
            add(yard.ofMachine(i, 4));
        }
        for (int i = 0; i < orders(); i++) {
            add(yard.days(i, 0));
            add(yard.days(i, 3));
        }
    }
}
