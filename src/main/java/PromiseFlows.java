import java.util.NoSuchElementException;

/** What can still be promised in a warehouse. The document's promises say what each call answers. */
public final class PromiseFlows {
    private static final int GOODS = 6;
    private static final int TIMES = 100;
    private static final int ARRIVALS = 10;
    private static final int ORDERS = 10;
    private static final int PARTS = 3;

    private static final int MOST_BROUGHT = 1000000;
    private static final int MOST_ORDERED = 10000;
    private static final int MOST_OF_A_PART = 100;
    private static final int LONGEST_LIFE = 100;
    private static final int LAST_RANK = 9;

    private static final int COVERED = 0;
    private static final int FALLEN = 1;
    private static final int CLOSED = 2;

    /** The demand behind those of all orders: it tries what more could be taken. */
    private static final int TRIAL = ORDERS * PARTS;
    private static final int DEMANDS = TRIAL + 1;
    private static final int ALL = -1;
    private static final int MORE_THAN_ALL = ARRIVALS * MOST_BROUGHT + 1;
    /** Far above the number of shifts that any demand can need; it only shows that the loop ends. */
    private static final int MANY_SHIFTS = 1000000;

    private final Goods goods = new Goods();
    private final Arrivals arrivals = new Arrivals();
    private final Orders orders = new Orders();
    private final Takings takings = new Takings();

    public PromiseFlows() {
    }

    public int arrival(int time, int good, int n)
            throws IllegalArgumentException, IllegalStateException, UnsupportedOperationException {
        needTime(time);
        needGood(good);
        needWithin(n, 0, MOST_BROUGHT);
        needNoKit(good);
        if (arrivals.number >= ARRIVALS) {
            throw new UnsupportedOperationException("no room for an arrival");
        }
        int added = arrivals.add(time, good, n);
        settle();
        return added;
    }

    public int change(int arrival, int time, int n)
            throws NoSuchElementException, IllegalArgumentException, IllegalStateException {
        needArrival(arrival);
        needTime(time);
        needWithin(n, 0, MOST_BROUGHT);
        if (n < arrivals.setAside[arrival]) {
            throw new IllegalStateException("less than what is set aside");
        }
        arrivals.times[arrival] = time;
        arrivals.brought[arrival] = n;
        return settle();
    }

    public int aside(int arrival, int n) throws NoSuchElementException, IllegalArgumentException {
        needArrival(arrival);
        needWithin(n, 0, arrivals.brought[arrival]);
        arrivals.setAside[arrival] = n;
        return settle();
    }

    public int life(int good, int times) throws IllegalArgumentException {
        needGood(good);
        needWithin(times, 0, LONGEST_LIFE);
        goods.lives[good] = times;
        return settle();
    }

    public int standIn(int other, int good, boolean may) throws IllegalArgumentException, IllegalStateException {
        needGood(other);
        needGood(good);
        if (other == good) {
            throw new IllegalArgumentException("a good does not stand in for itself");
        }
        needNoKit(other);
        needNoKit(good);
        if (goods.standsInFor(other, good) == may) {
            throw new IllegalStateException("it was so");
        }
        goods.letStandIn(other, good, may);
        return settle();
    }

    public int kit(int good, int part, int n)
            throws IllegalArgumentException, IllegalStateException, UnsupportedOperationException {
        needGood(good);
        needGood(part);
        needWithin(n, 1, MOST_OF_A_PART);
        needNoKit(part);
        if (part == good || goods.hasPart(good, part)) {
            throw new IllegalStateException("the part is the good itself, or there already");
        }
        if (goods.isPart(good) || goods.isInStandIn(good) || arrivals.has(good) || orders.has(good)) {
            throw new IllegalStateException("the good is in use");
        }
        if (goods.recipeLengths[good] >= PARTS) {
            throw new UnsupportedOperationException("no room for a part");
        }
        return goods.addPart(good, part, n);
    }

    public int order(int due, int good, int n, int rank)
            throws IllegalArgumentException, UnsupportedOperationException {
        needTime(due);
        needGood(good);
        needWithin(n, 1, MOST_ORDERED);
        needWithin(rank, 1, LAST_RANK);
        if (orders.number >= ORDERS) {
            throw new UnsupportedOperationException("no room for an order");
        }
        int candidate = orders.write(due, good, n, rank);
        if (!joinsCovered(candidate)) {
            return -1;
        }
        orders.admit();
        makePlan();
        return candidate;
    }

    public int close(int order) throws NoSuchElementException, IllegalStateException {
        needOrder(order);
        if (orders.states[order] == CLOSED) {
            throw new IllegalStateException("it is closed");
        }
        orders.states[order] = CLOSED;
        return settle();
    }

    public int promise(int good, int time) throws IllegalArgumentException {
        needGood(good);
        needTime(time);
        return greatestFurther(good, time);
    }

    public int share(int good, int time) throws IllegalArgumentException, ArithmeticException {
        needGood(good);
        needTime(time);
        int brought = arrivals.broughtBy(usableFor(good, time));
        if (brought == 0) {
            throw new ArithmeticException("/ by zero");
        }
        return (int) (1000L * greatestFurther(good, time) / brought);
    }

    public int bars(int good, int time, int i) throws IllegalArgumentException, IllegalStateException {
        needGood(good);
        needTime(time);
        needNotBelowZero(i);
        needNoKit(good);
        int reached = takings.spread(usableFor(good, time), ALL);
        int found = 0;
        for (int order = 0; order < orders.number; order++) {
            if (takesFrom(order, reached)) {
                if (found == i) {
                    return order;
                }
                found++;
            }
        }
        return -1;
    }

    public int flow(int order, int i, int what)
            throws NoSuchElementException, IllegalArgumentException, IllegalStateException {
        needOrder(order);
        needNotBelowZero(i);
        needWithin(what, 0, 2);
        if (orders.states[order] != COVERED) {
            throw new IllegalStateException("it is not covered");
        }
        int passed = 0;
        for (int p = 0; p < demandsOf(order); p++) {
            int demand = demandAt(order, p);
            int parts = takings.partsOf(demand);
            if (i - passed < parts) {
                return what == 1 ? goods.demandGood(orders.goods[order], p)
                        : takings.partOf(demand, i - passed, what == 0);
            }
            passed += parts;
        }
        return -1;
    }

    public int state(int order) throws NoSuchElementException {
        needOrder(order);
        return orders.states[order];
    }

    public int left(int arrival) throws NoSuchElementException {
        needArrival(arrival);
        return takings.room[arrival];
    }

    public int count(int what) {
        switch (what) {
            case 0: return arrivals.number;
            case 1: return orders.number;
            case 2: return orders.numberIn(COVERED);
            case 3: return orders.numberIn(FALLEN);
            case 4: return arrivals.allFree();
            case 5: return allCoveredDemands();
            default: return -1;
        }
    }

    private static void needWithin(int number, int least, int most) {
        if (number < least || number > most) {
            throw new IllegalArgumentException("a number outside its range");
        }
    }

    private static void needGood(int good) {
        needWithin(good, 0, GOODS - 1);
    }

    private static void needTime(int time) {
        needWithin(time, 0, TIMES - 1);
    }

    private static void needNotBelowZero(int i) {
        if (i < 0) {
            throw new IllegalArgumentException("a place below 0");
        }
    }

    private void needArrival(int arrival) {
        if (arrival < 0 || arrival >= arrivals.number) {
            throw new NoSuchElementException("no such arrival");
        }
    }

    private void needOrder(int order) {
        if (order < 0 || order >= orders.number) {
            throw new NoSuchElementException("no such order");
        }
    }

    private void needNoKit(int good) {
        if (goods.isKit(good)) {
            throw new IllegalStateException("it is a kit");
        }
    }

    /** Covers the orders by rank and plans anew; answers how many are fallen. */
    private int settle() {
        takings.clear(arrivals);
        for (int i = 0; i < orders.number; i++) {
            int order = orders.byRank[i];
            if (orders.states[order] != CLOSED) {
                orders.states[order] = joinsCovered(order) ? COVERED : FALLEN;
            }
        }
        makePlan();
        return orders.numberIn(FALLEN);
    }

    /** Takes for an order beside all that is taken, or, if that is not possible in full, takes nothing. */
    private boolean joinsCovered(int order) {
        takings.save();
        for (int p = 0; p < demandsOf(order); p++) {
            int demand = demandAt(order, p);
            takings.usable[demand] = usableFor(goods.demandGood(orders.goods[order], p), orders.dues[order]);
            if (takings.take(demand, wantedBy(order, p), ALL) > 0) {
                takings.restore();
                return false;
            }
        }
        return true;
    }

    /**
     * Lets each demand in its turn take anew while only those behind it may still give way:
     * what was planned before stays, and all demands are still met.
     */
    private void makePlan() {
        int loose = ALL;
        for (int i = 0; i < orders.number; i++) {
            int order = orders.byRank[i];
            if (orders.states[order] == COVERED) {
                for (int p = 0; p < demandsOf(order); p++) {
                    int demand = demandAt(order, p);
                    loose &= ~(1 << demand);
                    takings.giveBack(demand);
                    takings.take(demand, wantedBy(order, p), loose);
                }
            }
        }
    }

    /**
     * So many of a good can be kept if no set of its demands wants more than can be freed for the
     * set as a whole (a cut of the network), so the set with the least to give for one decides.
     */
    private int greatestFurther(int good, int due) {
        int sets = 1 << goods.demandsOf(good);
        int greatest = MORE_THAN_ALL;
        for (int set = 1; set < sets; set++) {
            int usable = 0;
            int forOne = 0;
            for (int p = 0; p < goods.demandsOf(good); p++) {
                if (hasBit(set, p)) {
                    usable |= usableFor(goods.demandGood(good, p), due);
                    forOne += goods.numberForOne(good, p);
                }
            }
            if (forOne > 0) {
                greatest = Math.min(greatest, takings.mostFrom(usable) / forOne);
            }
        }
        return greatest;
    }

    /** The arrivals, as bits, that a demand of a good may be met from. */
    private int usableFor(int good, int due) {
        int usable = 0;
        for (int a = 0; a < arrivals.number; a++) {
            int other = arrivals.goods[a];
            int age = due - arrivals.times[a];
            if (goods.meets(other, good) && age >= 0 && age <= goods.lives[other]) {
                usable |= 1 << a;
            }
        }
        return usable;
    }

    private boolean takesFrom(int order, int fromArrivals) {
        for (int p = 0; p < demandsOf(order); p++) {
            if (takings.takesFrom(demandAt(order, p), fromArrivals)) {
                return true;
            }
        }
        return false;
    }

    private int demandsOf(int order) {
        return goods.demandsOf(orders.goods[order]);
    }

    private int wantedBy(int order, int p) {
        return orders.wanted[order] * goods.numberForOne(orders.goods[order], p);
    }

    private int allCoveredDemands() {
        int sum = 0;
        for (int order = 0; order < orders.number; order++) {
            if (orders.states[order] == COVERED) {
                for (int p = 0; p < demandsOf(order); p++) {
                    sum += wantedBy(order, p);
                }
            }
        }
        return sum;
    }

    private static int demandAt(int order, int p) {
        return order * PARTS + p;
    }

    private static boolean hasBit(int bits, int i) {
        return (bits >> i & 1) != 0;
    }

    /** The lives of goods, what stands in for what, and the recipes of kits. */
    private static final class Goods {
        private final int[] lives = new int[GOODS];
        private final boolean[] standing = new boolean[GOODS * GOODS];
        private final int[] recipeLengths = new int[GOODS];
        private final int[] partGoods = new int[GOODS * PARTS];
        private final int[] partNumbers = new int[GOODS * PARTS];

        private Goods() {
            for (int good = 0; good < GOODS; good++) {
                lives[good] = LONGEST_LIFE;
            }
        }

        private boolean standsInFor(int other, int good) {
            return standing[other * GOODS + good];
        }

        private void letStandIn(int other, int good, boolean may) {
            standing[other * GOODS + good] = may;
        }

        private boolean meets(int other, int good) {
            return other == good || standsInFor(other, good);
        }

        private boolean isInStandIn(int good) {
            for (int other = 0; other < GOODS; other++) {
                if (standsInFor(good, other) || standsInFor(other, good)) {
                    return true;
                }
            }
            return false;
        }

        private boolean isKit(int good) {
            return recipeLengths[good] > 0;
        }

        private boolean hasPart(int good, int part) {
            for (int p = 0; p < recipeLengths[good]; p++) {
                if (partGoods[good * PARTS + p] == part) {
                    return true;
                }
            }
            return false;
        }

        private boolean isPart(int part) {
            for (int good = 0; good < GOODS; good++) {
                if (hasPart(good, part)) {
                    return true;
                }
            }
            return false;
        }

        private int addPart(int good, int part, int n) {
            int at = good * PARTS + recipeLengths[good];
            partGoods[at] = part;
            partNumbers[at] = n;
            recipeLengths[good]++;
            return recipeLengths[good];
        }

        private int demandsOf(int good) {
            return isKit(good) ? recipeLengths[good] : 1;
        }

        private int demandGood(int good, int p) {
            return isKit(good) ? partGoods[good * PARTS + p] : good;
        }

        private int numberForOne(int good, int p) {
            return isKit(good) ? partNumbers[good * PARTS + p] : 1;
        }
    }

    /** The arrivals as they came. */
    private static final class Arrivals {
        private int number = 0;
        private final int[] times = new int[ARRIVALS];
        private final int[] goods = new int[ARRIVALS];
        private final int[] brought = new int[ARRIVALS];
        private final int[] setAside = new int[ARRIVALS];

        private int add(int time, int good, int n) {
            times[number] = time;
            goods[number] = good;
            brought[number] = n;
            number++;
            return number - 1;
        }

        private boolean has(int good) {
            for (int a = 0; a < number; a++) {
                if (goods[a] == good) {
                    return true;
                }
            }
            return false;
        }

        private int free(int arrival) {
            return brought[arrival] - setAside[arrival];
        }

        private int allFree() {
            int sum = 0;
            for (int a = 0; a < number; a++) {
                sum += free(a);
            }
            return sum;
        }

        private int broughtBy(int some) {
            int sum = 0;
            for (int a = 0; a < number; a++) {
                if (hasBit(some, a)) {
                    sum += brought[a];
                }
            }
            return sum;
        }

        /** Fills a row with the arrivals by time, of equal ones by number. */
        private void sortByTime(int[] byTime) {
            for (int a = 0; a < number; a++) {
                int at = a;
                while (at > 0 && times[byTime[at - 1]] > times[a]) {
                    byTime[at] = byTime[at - 1];
                    at--;
                }
                byTime[at] = a;
            }
        }
    }

    /** The orders as they came, and their order of rank. */
    private static final class Orders {
        private int number = 0;
        private final int[] dues = new int[ORDERS];
        private final int[] goods = new int[ORDERS];
        private final int[] wanted = new int[ORDERS];
        private final int[] ranks = new int[ORDERS];
        private final int[] states = new int[ORDERS];
        private final int[] byRank = new int[ORDERS];

        /** Writes down what is no order before admit() is called. */
        private int write(int due, int good, int n, int rank) {
            dues[number] = due;
            goods[number] = good;
            wanted[number] = n;
            ranks[number] = rank;
            return number;
        }

        private void admit() {
            int at = number;
            while (at > 0 && ranks[byRank[at - 1]] > ranks[number]) {
                byRank[at] = byRank[at - 1];
                at--;
            }
            byRank[at] = number;
            states[number] = COVERED;
            number++;
        }

        private boolean has(int good) {
            for (int order = 0; order < number; order++) {
                if (goods[order] == good) {
                    return true;
                }
            }
            return false;
        }

        private int numberIn(int some) {
            int sum = 0;
            for (int order = 0; order < number; order++) {
                if (states[order] == some) {
                    sum++;
                }
            }
            return sum;
        }
    }

    /** What demands take from arrivals: a flow that is made greater along paths on which others give way. */
    private static final class Takings {
        private int arrivals = 0;
        private final int[] byTime = new int[ARRIVALS];
        private final int[] room = new int[ARRIVALS];
        private final int[] taken = new int[DEMANDS * ARRIVALS];
        private final int[] usable = new int[DEMANDS];
        private final int[] savedRoom = new int[ARRIVALS];
        private final int[] savedTaken = new int[DEMANDS * ARRIVALS];
        private final int[] reachedInTurn = new int[ARRIVALS];
        private final int[] reachedFrom = new int[ARRIVALS];
        private final int[] reachedBy = new int[ARRIVALS];

        /** Nothing is taken from these arrivals, as they are now. */
        private void clear(Arrivals all) {
            arrivals = all.number;
            all.sortByTime(byTime);
            for (int a = 0; a < arrivals; a++) {
                room[a] = all.free(a);
            }
            for (int i = 0; i < taken.length; i++) {
                taken[i] = 0;
            }
        }

        private void save() {
            System.arraycopy(room, 0, savedRoom, 0, ARRIVALS);
            System.arraycopy(taken, 0, savedTaken, 0, DEMANDS * ARRIVALS);
        }

        private void restore() {
            System.arraycopy(savedRoom, 0, room, 0, ARRIVALS);
            System.arraycopy(savedTaken, 0, taken, 0, DEMANDS * ARRIVALS);
        }

        private void giveBack(int demand) {
            for (int a = 0; a < arrivals; a++) {
                room[a] += taken[demand * ARRIVALS + a];
                taken[demand * ARRIVALS + a] = 0;
            }
        }

        /** The most that more could be taken from some arrivals while all that is taken stays met. */
        private int mostFrom(int some) {
            save();
            usable[TRIAL] = some;
            int most = MORE_THAN_ALL - take(TRIAL, MORE_THAN_ALL, ALL);
            restore();
            return most;
        }

        /**
         * As much as is possible from each arrival in its turn, the loose demands giving way but
         * staying met; answers what is missing. A later turn never takes back from an earlier one.
         */
        private int take(int demand, int wanted, int loose) {
            int others = loose & ~(1 << demand);
            int missing = wanted;
            for (int i = 0; i < arrivals && missing > 0; i++) {
                int arrival = byTime[i];
                if (hasBit(usable[demand], arrival)) {
                    missing = takeFrom(demand, arrival, missing, others);
                }
            }
            return missing;
        }

        private int takeFrom(int demand, int arrival, int wanted, int loose) {
            int missing = wanted;
            for (int shifts = 0; shifts < MANY_SHIFTS && missing > 0; shifts++) {
                int last = room[arrival] > 0 ? arrival : nearestRoom(spread(1 << arrival, loose));
                if (last < 0) {
                    return missing;
                }
                int n = shift(arrival, last, missing);
                taken[demand * ARRIVALS + arrival] += n;
                missing -= n;
            }
            return missing;
        }

        /** The first with room of those just reached, or -1. */
        private int nearestRoom(int reached) {
            int length = Integer.bitCount(reached);
            for (int i = 0; i < length && i < ARRIVALS; i++) {
                if (room[reachedInTurn[i]] > 0) {
                    return reachedInTurn[i];
                }
            }
            return -1;
        }

        /** The arrivals from which loose demands could take instead of some, and so on: the nearest first. */
        private int spread(int some, int loose) {
            int reached = some;
            int length = reach(some, 0, -1, -1);
            for (int i = 0; i < length && i < ARRIVALS; i++) {
                int arrival = reachedInTurn[i];
                for (int demand = 0; demand < DEMANDS; demand++) {
                    int more = usable[demand] & ~reached;
                    if (more != 0 && hasBit(loose, demand) && taken[demand * ARRIVALS + arrival] > 0) {
                        length = reach(more, length, arrival, demand);
                        reached |= more;
                    }
                }
            }
            return reached;
        }

        private int reach(int some, int length, int from, int by) {
            int at = length;
            for (int a = 0; a < arrivals; a++) {
                if ((some >> a & 1) != 0 && at < ARRIVALS) {
                    reachedInTurn[at] = a;
                    reachedFrom[a] = from;
                    reachedBy[a] = by;
                    at++;
                }
            }
            return at;
        }

        /** Frees up to so many of the first arrival by what has room in the last one of its path. */
        private int shift(int first, int last, int most) {
            int n = Math.min(most, room[last]);
            int at = last;
            for (int hops = 0; hops < ARRIVALS && at != first; hops++) {
                n = Math.min(n, taken[reachedBy[at] * ARRIVALS + reachedFrom[at]]);
                at = reachedFrom[at];
            }
            room[last] -= n;
            at = last;
            for (int hops = 0; hops < ARRIVALS && at != first; hops++) {
                taken[reachedBy[at] * ARRIVALS + at] += n;
                taken[reachedBy[at] * ARRIVALS + reachedFrom[at]] -= n;
                at = reachedFrom[at];
            }
            return n;
        }

        private boolean takesFrom(int demand, int some) {
            for (int a = 0; a < arrivals; a++) {
                if (hasBit(some, a) && taken[demand * ARRIVALS + a] > 0) {
                    return true;
                }
            }
            return false;
        }

        private int partsOf(int demand) {
            int parts = 0;
            for (int a = 0; a < arrivals; a++) {
                if (taken[demand * ARRIVALS + a] > 0) {
                    parts++;
                }
            }
            return parts;
        }

        /** Of the i-th part in the order of the plan: its arrival, or how many. */
        private int partOf(int demand, int i, boolean wantsArrival) {
            int passed = 0;
            for (int turn = 0; turn < arrivals; turn++) {
                int arrival = byTime[turn];
                int n = taken[demand * ARRIVALS + arrival];
                if (n > 0) {
                    if (passed == i) {
                        return wantsArrival ? arrival : n;
                    }
                    passed++;
                }
            }
            return -1;
        }
    }
}
