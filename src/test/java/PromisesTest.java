import java.util.NoSuchElementException;

/** Each promise of the document by hand, in the ordinary course of calls; the edges have tests of their own. */
public final class PromisesTest {
    private static final Class<IllegalArgumentException> ARGUMENT = IllegalArgumentException.class;
    private static final Class<IllegalStateException> STATE = IllegalStateException.class;
    private static final Class<NoSuchElementException> NONE = NoSuchElementException.class;
    private static final Class<UnsupportedOperationException> ROOM = UnsupportedOperationException.class;

    private static final Due due = new Due("PromisesTest");

    public static void main(String[] args) {
        newObject();
        arrivals();
        arrivalCoversFallen();
        changes();
        setAside();
        lives();
        standIns();
        kits();
        orders();
        ranks();
        closing();
        promises();
        promiseOfKits();
        shares();
        bars();
        barsOfKitOrders();
        flows();
        planGivesWayToLaterDemands();
        states();
        lefts();
        counts();
        due.end();
    }

    private static void newObject() {
        PromiseFlows x = new PromiseFlows();
        for (int what = 0; what <= 5; what++) {
            int w = what;
            due.answers("1 count(" + w + ")", 0, () -> x.count(w));
        }
        for (int good = 0; good < 6; good++) {
            int g = good;
            due.answers("1 promise of nothing", 0, () -> x.promise(g, 99));
            due.answers("1 no kit, so bars answers", -1, () -> x.bars(g, 0, 0));
        }
        due.refuses("1 no arrival", NONE, () -> x.left(0));
        due.refuses("1 no order", NONE, () -> x.state(0));
        due.refuses("1 no stand-in", STATE, () -> x.standIn(0, 1, false));
    }

    private static void arrivals() {
        PromiseFlows x = new PromiseFlows();
        for (int i = 0; i < 10; i++) {
            int n = i;
            due.answers("2 numbers as they come", n, () -> x.arrival(99 - n * 11, n % 6, n * 100000));
        }
        due.refuses("2 the eleventh", ROOM, () -> x.arrival(0, 0, 0));
        due.answers("2 ten arrivals", 10, () -> x.count(0));
        PromiseFlows y = new PromiseFlows();
        due.answers("2 least", 0, () -> y.arrival(0, 0, 0));
        due.answers("2 most", 1, () -> y.arrival(99, 5, 1000000));
        due.answers("2 usable from its own time on", 1000000, () -> y.promise(5, 99));
        due.answers("2 not before", 0, () -> y.promise(5, 98));
    }

    private static void arrivalCoversFallen() {
        PromiseFlows x = new PromiseFlows();
        x.arrival(0, 0, 10);
        x.order(5, 0, 10, 1);
        x.change(0, 0, 9);
        due.answers("2 fallen before", 1, () -> x.state(0));
        due.answers("2 a second arrival", 1, () -> x.arrival(5, 0, 1));
        due.answers("2 covered again", 0, () -> x.state(0));
    }

    private static void changes() {
        PromiseFlows x = new PromiseFlows();
        x.arrival(3, 0, 10);
        x.order(5, 0, 6, 2);
        x.order(9, 0, 4, 1);
        due.answers("3 enough for the first by rank", 1, () -> x.change(0, 3, 9));
        due.answers("3 the lesser rank stays", 0, () -> x.state(1));
        due.answers("3 the greater falls", 1, () -> x.state(0));
        due.answers("3 too late for order 0", 1, () -> x.change(0, 6, 10));
        due.answers("3 too late for both", 2, () -> x.change(0, 10, 1000000));
        due.answers("3 none of it", 2, () -> x.change(0, 0, 0));
        due.answers("3 both again", 0, () -> x.change(0, 5, 10));
        due.answers("3 at the due time itself", 0, () -> x.state(0));
    }

    private static void setAside() {
        PromiseFlows x = new PromiseFlows();
        due.refuses("4 no arrival", NONE, () -> x.aside(0, 0));
        x.arrival(0, 0, 10);
        x.order(0, 0, 7, 1);
        due.refuses("4 no arrival before a wrong number", NONE, () -> x.aside(1, -1));
        due.refuses("4 below 0", ARGUMENT, () -> x.aside(0, -1));
        due.refuses("4 more than it brings", ARGUMENT, () -> x.aside(0, 11));
        due.answers("4 what can be spared", 0, () -> x.aside(0, 3));
        due.answers("4 none left", 0, () -> x.left(0));
        due.answers("4 instead, not more", 1, () -> x.aside(0, 4));
        due.answers("4 left of the rest", 6, () -> x.left(0));
        due.answers("4 all", 1, () -> x.aside(0, 10));
        due.answers("4 none", 0, () -> x.aside(0, 0));
        due.answers("4 left", 3, () -> x.left(0));
    }

    private static void lives() {
        PromiseFlows x = new PromiseFlows();
        x.arrival(10, 0, 5);
        x.arrival(10, 1, 5);
        x.order(20, 0, 5, 1);
        x.order(20, 1, 5, 1);
        due.answers("5 long enough", 0, () -> x.life(0, 10));
        due.answers("5 promise at the last time", 0, () -> x.promise(0, 20));
        due.answers("5 too short", 1, () -> x.life(0, 9));
        due.answers("5 last use", 5, () -> x.promise(0, 19));
        due.answers("5 behind it", 0, () -> x.promise(0, 20));
        due.answers("5 least", 1, () -> x.life(0, 0));
        due.answers("5 on its own time alone", 5, () -> x.promise(0, 10));
        due.answers("5 not behind", 0, () -> x.promise(0, 11));
        due.answers("5 always", 0, () -> x.life(0, 100));
        due.answers("5 the other's life counts for a stand-in", 0, () -> x.standIn(1, 0, true));
        due.answers("5 of the stand-in", 1, () -> x.life(1, 9));
        due.refuses("5 times above", ARGUMENT, () -> x.life(0, 101));
        due.refuses("5 times below", ARGUMENT, () -> x.life(0, -1));
        due.refuses("5 good above", ARGUMENT, () -> x.life(6, 0));
        due.refuses("5 good below", ARGUMENT, () -> x.life(-1, 0));
        PromiseFlows y = new PromiseFlows();
        y.arrival(0, 0, 5);
        due.answers("5 always at first", 5, () -> y.promise(0, 99));
        y.kit(1, 0, 1);
        due.answers("5 of a kit", 0, () -> y.life(1, 0));
        due.answers("5 of a kit has no weight", 5, () -> y.promise(1, 99));
    }

    private static void standIns() {
        PromiseFlows x = new PromiseFlows();
        x.arrival(0, 0, 5);
        x.arrival(0, 1, 5);
        due.answers("6 not before", 5, () -> x.promise(1, 0));
        due.answers("6 may", 0, () -> x.standIn(0, 1, true));
        due.answers("6 first for the second", 10, () -> x.promise(1, 0));
        due.answers("6 not the second for the first", 5, () -> x.promise(0, 0));
        due.answers("6 an order of both", 0, () -> x.order(0, 1, 8, 1));
        due.answers("6 both ways", 0, () -> x.standIn(1, 0, true));
        due.answers("6 may not any more", 1, () -> x.standIn(0, 1, false));
        due.answers("6 may again", 0, () -> x.standIn(0, 1, true));
        PromiseFlows y = new PromiseFlows();
        y.arrival(0, 0, 5);
        y.standIn(0, 1, true);
        y.standIn(1, 2, true);
        due.answers("6 a stand-in's stand-in is none", 0, () -> y.promise(2, 0));
    }

    private static void kits() {
        PromiseFlows x = new PromiseFlows();
        due.answers("7 one part", 1, () -> x.kit(5, 0, 100));
        due.answers("7 two", 2, () -> x.kit(5, 1, 1));
        due.answers("7 three", 3, () -> x.kit(5, 2, 2));
        due.refuses("7 a fourth", ROOM, () -> x.kit(5, 3, 1));
        due.refuses("7 there already, before no room", STATE, () -> x.kit(5, 2, 1));
        due.answers("7 a part of two kits", 1, () -> x.kit(4, 0, 1));
        x.arrival(0, 0, 1000);
        x.arrival(0, 1, 1000);
        x.arrival(0, 2, 9);
        due.answers("7 the scarcest part decides", 4, () -> x.promise(5, 0));
        due.answers("7 the other kit", 1000, () -> x.promise(4, 0));
    }

    private static void orders() {
        PromiseFlows x = new PromiseFlows();
        x.arrival(0, 0, 1000000);
        due.answers("8 most", 0, () -> x.order(99, 0, 10000, 9));
        due.answers("8 least", 1, () -> x.order(0, 0, 1, 1));
        due.answers("8 what there is not", -1, () -> x.order(0, 1, 1, 1));
        due.answers("8 there is none then", 2, () -> x.count(1));
        for (int i = 2; i < 10; i++) {
            int n = i;
            due.answers("8 numbers as they come", n, () -> x.order(n, 0, n, n % 9 + 1));
        }
        due.refuses("8 the eleventh", ROOM, () -> x.order(0, 0, 1, 1));
        due.refuses("8 the eleventh, could it not be kept", ROOM, () -> x.order(0, 1, 1, 1));
        x.close(3);
        due.refuses("8 closed ones are orders", ROOM, () -> x.order(0, 0, 1, 1));
        PromiseFlows y = new PromiseFlows();
        y.arrival(0, 0, 5);
        due.answers("8 the first", 0, () -> y.order(0, 0, 3, 9));
        due.answers("8 a better rank displaces none", -1, () -> y.order(0, 0, 3, 1));
        due.answers("8 just so many", 1, () -> y.order(0, 0, 2, 1));
        y.change(0, 0, 2);
        due.answers("8 a fallen one is not kept", 2, () -> y.arrival(9, 1, 5) + 1);
        due.answers("8 of what is left", 2, () -> y.order(9, 1, 5, 1));
    }

    private static void ranks() {
        PromiseFlows x = new PromiseFlows();
        x.arrival(0, 0, 12);
        x.order(0, 0, 4, 5);
        x.order(0, 0, 4, 5);
        x.order(0, 0, 3, 1);
        x.order(0, 0, 1, 9);
        due.answers("ranks: of equal ones the lesser number", 1, () -> x.change(0, 0, 8));
        due.answers("ranks: order 0", 0, () -> x.state(0));
        due.answers("ranks: order 1 falls", 1, () -> x.state(1));
        due.answers("ranks: order 2", 0, () -> x.state(2));
        due.answers("ranks: a lesser one behind a fallen one is covered", 0, () -> x.state(3));
        due.answers("ranks: only the best", 2, () -> x.change(0, 0, 6));
        due.answers("ranks: order 3 fits beside it", 0, () -> x.state(3));
        due.answers("ranks: the small ones", 3, () -> x.change(0, 0, 2));
        due.answers("ranks: order 3 alone", 0, () -> x.state(3));
    }

    private static void closing() {
        PromiseFlows x = new PromiseFlows();
        due.refuses("9 no order", NONE, () -> x.close(0));
        x.arrival(0, 0, 10);
        x.order(0, 0, 6, 1);
        x.order(0, 0, 4, 2);
        x.change(0, 0, 6);
        due.answers("9 one fallen before", 1, () -> x.count(3));
        due.answers("9 its goods are still there", 0, () -> x.close(0));
        due.answers("9 the other is covered", 0, () -> x.state(1));
        due.answers("9 left", 2, () -> x.left(0));
        due.refuses("9 it is", STATE, () -> x.close(0));
        due.refuses("9 above", NONE, () -> x.close(2));
        due.refuses("9 below", NONE, () -> x.close(-1));
        x.change(0, 0, 3);
        due.answers("9 of a fallen one", 0, () -> x.close(1));
        due.answers("9 closed", 2, () -> x.state(1));
        due.answers("9 closed ones stay so", 0, () -> x.change(0, 0, 100));
        due.answers("9 closed still", 2, () -> x.state(0));
        PromiseFlows y = new PromiseFlows();
        y.arrival(0, 0, 10);
        y.order(0, 0, 5, 1);
        y.order(0, 0, 5, 2);
        y.change(0, 0, 4);
        due.answers("9 how many others are fallen", 1, () -> y.close(0));
    }

    private static void promises() {
        PromiseFlows x = new PromiseFlows();
        x.arrival(2, 0, 10);
        x.arrival(4, 1, 6);
        x.standIn(1, 0, true);
        x.order(5, 0, 8, 1);
        due.answers("10 before all", 0, () -> x.promise(0, 1));
        due.answers("10 the order uses what comes later", 8, () -> x.promise(0, 2));
        due.answers("10 of both", 8, () -> x.promise(0, 4));
        due.answers("10 of the stand-in alone", 6, () -> x.promise(1, 4));
        due.answers("10 as often as asked", 8, () -> x.promise(0, 4));
        due.refuses("10 good above", ARGUMENT, () -> x.promise(6, 0));
        due.refuses("10 good below", ARGUMENT, () -> x.promise(-1, 0));
        due.refuses("10 time above", ARGUMENT, () -> x.promise(0, 100));
        due.refuses("10 time below", ARGUMENT, () -> x.promise(0, -1));
        PromiseFlows y = new PromiseFlows();
        for (int i = 0; i < 10; i++) {
            y.arrival(0, 0, 1000000);
        }
        due.answers("10 all that there can be", 10000000, () -> y.promise(0, 0));
    }

    private static void promiseOfKits() {
        PromiseFlows x = new PromiseFlows();
        x.kit(5, 0, 2);
        x.kit(5, 1, 3);
        x.kit(5, 2, 1);
        x.arrival(0, 0, 4);
        x.arrival(0, 1, 9);
        x.arrival(0, 2, 7);
        due.answers("10 parts", 2, () -> x.promise(5, 0));
        x.standIn(2, 0, true);
        due.answers("10 two parts share a stand-in", 3, () -> x.promise(5, 0));
        x.standIn(2, 1, true);
        due.answers("10 three share it", 3, () -> x.promise(5, 0));
        x.arrival(0, 2, 4);
        due.answers("10 and more of it", 4, () -> x.promise(5, 0));
        due.answers("10 just so many", 0, () -> x.order(0, 5, 4, 1));
        due.answers("10 no more", 0, () -> x.promise(5, 0));
        PromiseFlows y = new PromiseFlows();
        y.kit(5, 0, 1);
        y.kit(5, 1, 100);
        for (int i = 0; i < 5; i++) {
            y.arrival(0, 0, 1000000);
            y.arrival(0, 1, 1000000);
        }
        due.answers("10 a large kit", 50000, () -> y.promise(5, 0));
    }

    private static void shares() {
        PromiseFlows x = new PromiseFlows();
        x.arrival(0, 0, 7);
        x.arrival(5, 0, 7);
        x.arrival(0, 1, 3);
        x.order(0, 0, 2, 1);
        due.answers("11 rests are dropped", 714, () -> x.share(0, 0));
        due.answers("11 of those that can be used", 857, () -> x.share(0, 5));
        x.aside(0, 1);
        due.answers("11 what they bring, set aside or not", 571, () -> x.share(0, 0));
        x.standIn(1, 0, true);
        due.answers("11 stand-ins", 700, () -> x.share(0, 0));
        due.refuses("11 that is 0", ArithmeticException.class, () -> x.share(2, 0));
        x.kit(5, 0, 1);
        due.answers("11 a kit could be kept", 7, () -> x.promise(5, 0));
        due.refuses("11 of a kit nothing", ArithmeticException.class, () -> x.share(5, 0));
        x.arrival(0, 3, 0);
        due.refuses("11 an arrival of nothing", ArithmeticException.class, () -> x.share(3, 0));
        due.refuses("11 good", ARGUMENT, () -> x.share(6, 0));
        due.refuses("11 time", ARGUMENT, () -> x.share(2, 100));
        PromiseFlows y = new PromiseFlows();
        for (int i = 0; i < 10; i++) {
            y.arrival(0, 0, 1000000);
        }
        due.answers("11 all of very many", 1000, () -> y.share(0, 0));
        y.aside(0, 1000000);
        due.answers("11 nine tenths of very many", 900, () -> y.share(0, 0));
    }

    private static void bars() {
        PromiseFlows x = new PromiseFlows();
        x.arrival(0, 0, 5);
        x.arrival(0, 1, 5);
        x.arrival(0, 2, 5);
        x.arrival(0, 3, 5);
        x.standIn(1, 0, true);
        x.standIn(2, 1, true);
        x.order(0, 3, 5, 1);
        x.order(0, 1, 5, 2);
        x.order(0, 2, 5, 1);
        x.order(0, 0, 5, 3);
        due.answers("12 upward: first", 1, () -> x.bars(0, 0, 0));
        due.answers("12 upward: by what could be used instead", 2, () -> x.bars(0, 0, 1));
        due.answers("12 upward: the one of the good", 3, () -> x.bars(0, 0, 2));
        due.answers("12 no more of them", -1, () -> x.bars(0, 0, 3));
        due.answers("12 far above", -1, () -> x.bars(0, 0, Integer.MAX_VALUE));
        due.answers("12 no way back from 2", 2, () -> x.bars(2, 0, 0));
        due.answers("12 no way back from 2, no more", -1, () -> x.bars(2, 0, 1));
        due.answers("12 the lone good", 0, () -> x.bars(3, 0, 0));
        due.answers("12 nothing of it", -1, () -> x.bars(4, 0, 0));
        x.close(2);
        due.answers("12 closed ones bar nothing", 3, () -> x.bars(0, 0, 1));
        x.change(0, 0, 0);
        due.answers("12 fallen ones bar nothing", -1, () -> x.bars(0, 0, 2));
        x.kit(5, 4, 1);
        due.refuses("12 a kit", STATE, () -> x.bars(5, 0, 0));
        due.refuses("12 a wrong i before a kit", ARGUMENT, () -> x.bars(5, 0, -1));
        due.refuses("12 a wrong time before a kit", ARGUMENT, () -> x.bars(5, 100, 0));
        due.refuses("12 good", ARGUMENT, () -> x.bars(6, 0, 0));
        due.refuses("12 time", ARGUMENT, () -> x.bars(0, -1, 0));
    }

    private static void barsOfKitOrders() {
        PromiseFlows x = new PromiseFlows();
        x.kit(5, 0, 1);
        x.kit(5, 1, 1);
        x.arrival(0, 0, 5);
        x.arrival(0, 1, 5);
        x.order(0, 5, 2, 1);
        x.order(0, 1, 2, 1);
        due.answers("12 the kit takes a part", 0, () -> x.bars(0, 0, 0));
        due.answers("12 a kit could not use another part instead", -1, () -> x.bars(0, 0, 1));
        due.answers("12 both take good 1", 1, () -> x.bars(1, 0, 1));
    }

    private static void flows() {
        PromiseFlows x = new PromiseFlows();
        x.kit(5, 1, 2);
        x.kit(5, 0, 1);
        x.arrival(7, 0, 3);
        x.arrival(2, 0, 3);
        x.arrival(7, 2, 9);
        x.arrival(1, 1, 50);
        x.arrival(7, 0, 3);
        x.standIn(2, 0, true);
        x.order(9, 5, 8, 4);
        int[][] parts = {{3, 1, 16}, {1, 0, 3}, {0, 0, 3}, {2, 0, 2}};
        for (int i = 0; i < parts.length; i++) {
            for (int what = 0; what < 3; what++) {
                int part = i;
                int w = what;
                due.answers("13 recipe, then time, then number: " + i + " " + what, parts[i][what],
                        () -> x.flow(0, part, w));
            }
        }
        for (int what = 0; what < 3; what++) {
            int w = what;
            due.answers("13 not so many", -1, () -> x.flow(0, 4, w));
            due.answers("13 far above", -1, () -> x.flow(0, Integer.MAX_VALUE, w));
        }
        x.change(2, 0, 9);
        due.answers("13 a new time, a new turn", 2, () -> x.flow(0, 1, 0));
        due.answers("13 all from there", 8, () -> x.flow(0, 1, 2));
    }

    private static void planGivesWayToLaterDemands() {
        PromiseFlows x = new PromiseFlows();
        x.arrival(0, 0, 10);
        x.arrival(5, 0, 10);
        x.order(9, 0, 8, 1);
        due.answers("plan: the earliest first", 8, () -> x.flow(0, 0, 2));
        x.order(4, 0, 7, 2);
        due.answers("plan: only what the later demand can spare", 3, () -> x.flow(0, 0, 2));
        due.answers("plan: the rest from the next", 1, () -> x.flow(0, 1, 0));
        due.answers("plan: the rest", 5, () -> x.flow(0, 1, 2));
        due.answers("plan: the later one in full", 7, () -> x.flow(1, 0, 2));
        x.order(9, 0, 5, 1);
        due.answers("plan: an equal rank behind", 1, () -> x.flow(2, 0, 0));
        due.answers("plan: nothing from the first one", -1, () -> x.flow(2, 1, 0));
        x.close(0);
        due.answers("plan: made anew", 0, () -> x.flow(2, 0, 0));
        due.answers("plan: as much as can be spared", 3, () -> x.flow(2, 0, 2));
    }

    private static void states() {
        PromiseFlows x = new PromiseFlows();
        x.arrival(0, 0, 10);
        x.order(0, 0, 10, 1);
        due.answers("14 covered", 0, () -> x.state(0));
        x.aside(0, 1);
        due.answers("14 fallen", 1, () -> x.state(0));
        x.close(0);
        due.answers("14 closed", 2, () -> x.state(0));
        due.refuses("14 above", NONE, () -> x.state(1));
        due.refuses("14 below", NONE, () -> x.state(-1));
    }

    private static void lefts() {
        PromiseFlows x = new PromiseFlows();
        x.arrival(0, 0, 10);
        x.arrival(0, 0, 10);
        x.aside(0, 2);
        x.order(0, 0, 11, 1);
        due.answers("15 the first is taken", 0, () -> x.left(0));
        due.answers("15 of the second", 7, () -> x.left(1));
        due.answers("15 a promise takes nothing", 7, () -> x.promise(0, 0));
        due.answers("15 of the second still", 7, () -> x.left(1));
        due.answers("15 a refused order takes nothing", -1, () -> x.order(0, 0, 8, 1));
        due.answers("15 of the second again", 7, () -> x.left(1));
        due.refuses("15 above", NONE, () -> x.left(2));
        due.refuses("15 below", NONE, () -> x.left(-1));
    }

    private static void counts() {
        PromiseFlows x = new PromiseFlows();
        x.kit(5, 0, 2);
        x.kit(5, 1, 3);
        x.arrival(0, 0, 20);
        x.arrival(0, 1, 20);
        x.arrival(0, 2, 20);
        x.aside(2, 5);
        x.order(0, 5, 4, 1);
        x.order(0, 2, 10, 2);
        x.order(0, 2, 5, 3);
        x.order(0, 0, 1, 4);
        x.close(3);
        x.aside(2, 6);
        int[] want = {3, 4, 2, 1, 54, 30};
        for (int what = 0; what < want.length; what++) {
            int w = what;
            due.answers("16 count(" + w + ")", want[w], () -> x.count(w));
        }
        for (int what : new int[] {-1, 6, Integer.MIN_VALUE, Integer.MAX_VALUE}) {
            due.answers("16 another what", -1, () -> x.count(what));
        }
    }
}
