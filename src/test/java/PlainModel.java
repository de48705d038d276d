import java.util.ArrayList;
import java.util.Comparator;
import java.util.List;
import java.util.NoSuchElementException;

/**
 * The document read a second time and as plainly as can be: whether orders can be kept is counted
 * over all sets of arrivals, and every greatest number is found by trying.
 */
final class PlainModel {
    static final class Arrival {
        int number;
        int time;
        int good;
        int brings;
        int aside;
    }

    static final class Order {
        int number;
        int due;
        int good;
        int n;
        int rank;
        int state;
    }

    /** What an order wants of one good; planned[a] is settled already, the rest is open. */
    static final class Demand {
        int order;
        int good;
        int due;
        long open;
        int[] planned;
    }

    static final class Part {
        int good;
        int n;
    }

    private final List<Arrival> arrivals = new ArrayList<>();
    private final List<Order> orders = new ArrayList<>();
    private final List<List<Part>> recipes = new ArrayList<>();
    private final int[] lives = {100, 100, 100, 100, 100, 100};
    private final boolean[][] standIn = new boolean[6][6];
    private List<Demand> plan = null;

    PlainModel() {
        for (int good = 0; good < 6; good++) {
            recipes.add(new ArrayList<>());
        }
    }

    int arrival(int time, int good, int n) {
        argument(time >= 0 && time < 100 && isGood(good) && n >= 0 && n <= 1000000);
        now(!isKit(good));
        room(arrivals.size() < 10);
        Arrival a = new Arrival();
        a.number = arrivals.size();
        a.time = time;
        a.good = good;
        a.brings = n;
        arrivals.add(a);
        cover();
        return a.number;
    }

    int change(int arrival, int time, int n) {
        there(arrival, arrivals.size());
        argument(time >= 0 && time < 100 && n >= 0 && n <= 1000000);
        now(n >= arrivals.get(arrival).aside);
        arrivals.get(arrival).time = time;
        arrivals.get(arrival).brings = n;
        return cover();
    }

    int aside(int arrival, int n) {
        there(arrival, arrivals.size());
        argument(n >= 0 && n <= arrivals.get(arrival).brings);
        arrivals.get(arrival).aside = n;
        return cover();
    }

    int life(int good, int times) {
        argument(isGood(good) && times >= 0 && times <= 100);
        lives[good] = times;
        return cover();
    }

    int standIn(int other, int good, boolean may) {
        argument(isGood(other) && isGood(good) && other != good);
        now(!isKit(other) && !isKit(good) && standIn[other][good] != may);
        standIn[other][good] = may;
        return cover();
    }

    int kit(int good, int part, int n) {
        argument(isGood(good) && isGood(part) && n >= 1 && n <= 100);
        now(!isKit(part) && part != good);
        for (Part p : recipes.get(good)) {
            now(p.good != part);
        }
        for (int g = 0; g < 6; g++) {
            for (Part p : recipes.get(g)) {
                now(p.good != good);
            }
            now(!standIn[g][good] && !standIn[good][g]);
        }
        for (Arrival a : arrivals) {
            now(a.good != good);
        }
        for (Order o : orders) {
            now(o.good != good);
        }
        room(recipes.get(good).size() < 3);
        Part p = new Part();
        p.good = part;
        p.n = n;
        recipes.get(good).add(p);
        return recipes.get(good).size();
    }

    int order(int due, int good, int n, int rank) {
        argument(due >= 0 && due < 100 && isGood(good) && n >= 1 && n <= 10000 && rank >= 1 && rank <= 9);
        room(orders.size() < 10);
        List<Demand> all = coveredDemands();
        all.addAll(demands(-1, due, good, n));
        if (!canBeKept(all)) {
            return -1;
        }
        Order o = new Order();
        o.number = orders.size();
        o.due = due;
        o.good = good;
        o.n = n;
        o.rank = rank;
        orders.add(o);
        plan = null;
        return o.number;
    }

    int close(int order) {
        there(order, orders.size());
        now(orders.get(order).state != 2);
        orders.get(order).state = 2;
        return cover();
    }

    int promise(int good, int time) {
        argument(isGood(good) && time >= 0 && time < 100);
        int least = 0;
        int most = 10000000;
        while (least < most) {
            int middle = least + (most - least + 1) / 2;
            List<Demand> all = coveredDemands();
            all.addAll(demands(-1, time, good, middle));
            if (canBeKept(all)) {
                least = middle;
            } else {
                most = middle - 1;
            }
        }
        return least;
    }

    int share(int good, int time) {
        int promised = promise(good, time);
        long bring = 0;
        for (Arrival a : arrivals) {
            if (!isKit(good) && usable(a, good, time)) {
                bring += a.brings;
            }
        }
        return (int) (1000L * promised / bring);
    }

    int bars(int good, int time, int i) {
        argument(isGood(good) && time >= 0 && time < 100 && i >= 0);
        now(!isKit(good));
        boolean[] reached = new boolean[arrivals.size()];
        for (Arrival a : arrivals) {
            reached[a.number] = usable(a, good, time);
        }
        boolean[] bar = new boolean[orders.size()];
        for (int round = 0; round < 50; round++) {
            for (Demand d : plan()) {
                boolean takes = false;
                for (Arrival a : arrivals) {
                    takes |= reached[a.number] && d.planned[a.number] > 0;
                }
                for (Arrival a : arrivals) {
                    reached[a.number] |= takes && usable(a, d.good, d.due);
                }
                bar[d.order] |= takes;
            }
        }
        List<Integer> all = new ArrayList<>();
        for (Order o : orders) {
            if (bar[o.number]) {
                all.add(o.number);
            }
        }
        return i < all.size() ? all.get(i) : -1;
    }

    int flow(int order, int i, int what) {
        there(order, orders.size());
        argument(i >= 0 && what >= 0 && what <= 2);
        now(orders.get(order).state == 0);
        List<int[]> parts = new ArrayList<>();
        for (Demand d : plan()) {
            for (Arrival a : byTime()) {
                if (d.order == order && d.planned[a.number] > 0) {
                    parts.add(new int[] {a.number, d.good, d.planned[a.number]});
                }
            }
        }
        return i < parts.size() ? parts.get(i)[what] : -1;
    }

    int state(int order) {
        there(order, orders.size());
        return orders.get(order).state;
    }

    int left(int arrival) {
        there(arrival, arrivals.size());
        Arrival a = arrivals.get(arrival);
        int left = a.brings - a.aside;
        for (Demand d : plan()) {
            left -= d.planned[arrival];
        }
        return left;
    }

    int count(int what) {
        int free = 0;
        for (Arrival a : arrivals) {
            free += a.brings - a.aside;
        }
        int wanted = 0;
        for (Demand d : coveredDemands()) {
            wanted += d.open;
        }
        int[] all = {arrivals.size(), orders.size(), inState(0), inState(1), free, wanted};
        return what >= 0 && what < all.length ? all[what] : -1;
    }

    private static boolean isGood(int good) {
        return good >= 0 && good < 6;
    }

    private boolean isKit(int good) {
        return !recipes.get(good).isEmpty();
    }

    private static void there(int number, int size) {
        if (number < 0 || number >= size) {
            throw new NoSuchElementException();
        }
    }

    private static void argument(boolean right) {
        if (!right) {
            throw new IllegalArgumentException();
        }
    }

    private static void now(boolean right) {
        if (!right) {
            throw new IllegalStateException();
        }
    }

    private static void room(boolean right) {
        if (!right) {
            throw new UnsupportedOperationException();
        }
    }

    private int inState(int state) {
        int n = 0;
        for (Order o : orders) {
            n += o.state == state ? 1 : 0;
        }
        return n;
    }

    private List<Order> byRank() {
        List<Order> sorted = new ArrayList<>(orders);
        sorted.sort(Comparator.comparingInt((Order o) -> o.rank).thenComparingInt(o -> o.number));
        return sorted;
    }

    private List<Arrival> byTime() {
        List<Arrival> sorted = new ArrayList<>(arrivals);
        sorted.sort(Comparator.comparingInt((Arrival a) -> a.time).thenComparingInt(a -> a.number));
        return sorted;
    }

    private boolean usable(Arrival a, int good, int due) {
        return (a.good == good || standIn[a.good][good]) && a.time <= due && due <= a.time + lives[a.good];
    }

    private List<Demand> demands(int order, int due, int good, int n) {
        List<Part> parts = new ArrayList<>(recipes.get(good));
        if (parts.isEmpty()) {
            Part itself = new Part();
            itself.good = good;
            itself.n = 1;
            parts.add(itself);
        }
        List<Demand> all = new ArrayList<>();
        for (Part p : parts) {
            Demand d = new Demand();
            d.order = order;
            d.good = p.good;
            d.due = due;
            d.open = (long) n * p.n;
            d.planned = new int[arrivals.size()];
            all.add(d);
        }
        return all;
    }

    private List<Demand> coveredDemands() {
        List<Demand> all = new ArrayList<>();
        for (Order o : byRank()) {
            if (o.state == 0) {
                all.addAll(demands(o.number, o.due, o.good, o.n));
            }
        }
        return all;
    }

    private int cover() {
        List<Demand> covered = new ArrayList<>();
        for (Order o : byRank()) {
            if (o.state != 2) {
                List<Demand> tried = new ArrayList<>(covered);
                tried.addAll(demands(o.number, o.due, o.good, o.n));
                o.state = canBeKept(tried) ? 0 : 1;
                covered = o.state == 0 ? tried : covered;
            }
        }
        plan = null;
        return inState(1);
    }

    /** For every set of arrivals: what can be met from nowhere else must not be more than they have. */
    private boolean canBeKept(List<Demand> all) {
        int[] usable = new int[all.size()];
        long[] free = new long[arrivals.size()];
        for (Arrival a : arrivals) {
            free[a.number] = a.brings - a.aside;
            for (int d = 0; d < all.size(); d++) {
                free[a.number] -= all.get(d).planned[a.number];
                usable[d] |= usable(a, all.get(d).good, all.get(d).due) ? 1 << a.number : 0;
            }
        }
        for (int set = 0; set < 1 << arrivals.size(); set++) {
            long has = 0;
            for (Arrival a : arrivals) {
                if ((set >> a.number & 1) != 0) {
                    has += free[a.number];
                }
            }
            for (int d = 0; d < all.size(); d++) {
                has -= (usable[d] & ~set) == 0 ? all.get(d).open : 0;
            }
            if (has < 0) {
                return false;
            }
        }
        return true;
    }

    private List<Demand> plan() {
        if (plan == null) {
            plan = coveredDemands();
            for (Demand d : plan) {
                for (Arrival a : byTime()) {
                    if (usable(a, d.good, d.due)) {
                        planAsMuchAsPossible(d, a.number);
                    }
                }
            }
        }
        return plan;
    }

    private void planAsMuchAsPossible(Demand d, int arrival) {
        long open = d.open;
        long least = 0;
        long most = open;
        while (least < most) {
            long middle = (least + most + 1) / 2;
            d.planned[arrival] = (int) middle;
            d.open = open - middle;
            if (canBeKept(plan)) {
                least = middle;
            } else {
                most = middle - 1;
            }
        }
        d.planned[arrival] = (int) least;
        d.open = open - least;
    }
}
