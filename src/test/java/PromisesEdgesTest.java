/** Each sentence of the document's promises that names a boundary case or a refusal, by itself. */
public final class PromisesEdgesTest {
    private static final Edges edges = new Edges("PromisesEdgesTest");

    public static void main(String[] args) {
        newObject();
        newObjectsAreTheirOwn();
        arrival();
        arrivalRefusals();
        change();
        changeRefusals();
        aside();
        asideRefusals();
        life();
        standIn();
        standInRefusals();
        kit();
        kitRefusalsOfThePart();
        kitRefusalsOfTheGood();
        kitOfThree();
        order();
        orderRefusals();
        close();
        closeRefusals();
        promise();
        promiseOfAKit();
        share();
        shareRefusals();
        bars();
        barsByWhatCouldBeUsedInstead();
        barsRefusals();
        flow();
        flowAndBarsOfAFullObject();
        flowRefusals();
        state();
        left();
        count();
        countOfAnotherWhat();
        edges.end();
    }

    /** 1: "No arrivals and orders; no kits, no stand-ins." */
    private static void newObject() {
        for (int what = 0; what < 6; what++) {
            int w = what;
            edges.answers("1 no arrivals and orders: count " + w, 0, Edges.NEW, x -> x.count(w));
        }
        for (int good = 0; good < 6; good++) {
            int g = good;
            edges.answers("1 no arrivals: promise of " + g, 0, Edges.NEW, x -> x.promise(g, 99));
            edges.refused("1 no arrivals: share of " + g, Edges.ZERO, Edges.NEW, x -> x.share(g, 99));
            edges.answers("1 no arrivals: order of " + g, -1, Edges.NEW, x -> x.order(99, g, 1, 1));
            edges.answers("1 no orders: bars of " + g, -1, Edges.NEW, x -> x.bars(g, 99, 0));
            edges.answers("1 no kits: arrival of " + g, 0, Edges.NEW, x -> x.arrival(0, g, 1));
            for (int other = 0; other < 6; other++) {
                int o = other;
                if (o != g) {
                    edges.refused("1 no stand-ins: " + o + " for " + g, Edges.STATE, Edges.NEW,
                            x -> x.standIn(o, g, false));
                }
            }
        }
        edges.numbers("1 no arrivals: change", 0, Edges.NEW, (x, arrival) -> x.change(arrival, 0, 0));
        edges.numbers("1 no arrivals: aside", 0, Edges.NEW, (x, arrival) -> x.aside(arrival, 0));
        edges.numbers("1 no arrivals: left", 0, Edges.NEW, (x, arrival) -> x.left(arrival));
        edges.numbers("1 no orders: close", 0, Edges.NEW, (x, order) -> x.close(order));
        edges.numbers("1 no orders: flow", 0, Edges.NEW, (x, order) -> x.flow(order, 0, 0));
        edges.numbers("1 no orders: state", 0, Edges.NEW, (x, order) -> x.state(order));
    }

    /** 1: the same of every new object, whatever was done with others. */
    private static void newObjectsAreTheirOwn() {
        String ofNew = Look.at(new PromiseFlows());
        String ofUsed = Look.at(Edges.made(Edges.STOCKED));
        PromiseFlows used = Edges.made(Edges.STOCKED);
        PromiseFlows other = new PromiseFlows();
        edges.same("1 a used object beside a new one", ofUsed, Look.at(used));
        edges.same("1 a new object beside a used one", ofNew, Look.at(other));
    }

    /** 2: "An arrival of 0 .. 1000000: its number." */
    private static void arrival() {
        edges.range("2 an arrival of 0 .. 1000000", 0, 1000000, Edges.NEW, (x, n) -> x.arrival(0, 0, n));
        edges.range("2 of 0 .. 1000000 beside others", 0, 1000000, Edges.STOCKED, (x, n) -> x.arrival(0, 0, n));
        edges.answers("2 its number, the first", 0, Edges.NEW, x -> x.arrival(99, 5, 0));
        edges.answers("2 its number, the next", 3, Edges.STOCKED, x -> x.arrival(0, 0, 1000000));
        edges.answers("2 of 0", 0, x -> x.arrival(0, 0, 0), x -> x.left(0));
        edges.answers("2 of 1000000", 1000000, x -> x.arrival(0, 0, 1000000), x -> x.left(0));
        edges.answers("2 nothing of it is set aside", 7, x -> x.arrival(0, 0, 7), x -> x.count(4));
    }

    /** 2: "IllegalArgumentException; IllegalStateException: the good is a kit." And no room, in the order of refusals. */
    private static void arrivalRefusals() {
        edges.refused("2 the good is a kit", Edges.STATE, Edges.STOCKED, x -> x.arrival(0, 5, 1));
        edges.refused("2 the good is a kit, nothing of it", Edges.STATE, Edges.STOCKED, x -> x.arrival(0, 5, 0));
        edges.refused("2 a time outside before a kit", Edges.ARGUMENT, Edges.STOCKED, x -> x.arrival(100, 5, 1));
        edges.refused("2 a number outside before a kit", Edges.ARGUMENT, Edges.STOCKED, x -> x.arrival(0, 5, -1));
        Edges.Start full = x -> {
            x.kit(5, 0, 1);
            for (int i = 0; i < 10; i++) {
                x.arrival(i, 0, 10);
            }
        };
        edges.refused("2 no room", Edges.ROOM, full, x -> x.arrival(0, 0, 1));
        edges.refused("2 a kit before no room", Edges.STATE, full, x -> x.arrival(0, 5, 1));
        edges.refused("2 a time outside before no room", Edges.ARGUMENT, full, x -> x.arrival(-1, 0, 1));
        edges.refused("2 a good outside before no room", Edges.ARGUMENT, full, x -> x.arrival(0, 6, 1));
        edges.refused("2 a number outside before no room", Edges.ARGUMENT, full, x -> x.arrival(0, 0, 1000001));
    }

    /** 3: "An arrival brings so many (0 .. 1000000) at a time instead: how many orders are fallen then." */
    private static void change() {
        Edges.Start one = x -> x.arrival(5, 0, 10);
        edges.range("3 brings 0 .. 1000000 instead", 0, 1000000, one, (x, n) -> x.change(0, 60, n));
        edges.numbers("3 an arrival that there is not", 3, Edges.STOCKED, (x, arrival) -> x.change(arrival, 1, 100));
        edges.answers("3 instead, not more", 4, x -> {
            one.on(x);
            x.change(0, 5, 4);
        }, x -> x.left(0));
        edges.answers("3 at the other time", 10, x -> {
            one.on(x);
            x.change(0, 4, 10);
        }, x -> x.promise(0, 4));
        edges.answers("3 no more at the former time", 0, x -> {
            one.on(x);
            x.change(0, 6, 10);
        }, x -> x.promise(0, 5));
        edges.answers("3 of the same good", 7, x -> {
            x.arrival(5, 3, 10);
            x.change(0, 5, 7);
        }, x -> x.promise(3, 5));
        edges.answers("3 the other arrivals stay", 10, x -> {
            one.on(x);
            one.on(x);
            x.change(1, 9, 0);
        }, x -> x.promise(0, 5));
        Edges.Start three = x -> {
            x.arrival(5, 0, 10);
            x.arrival(5, 1, 10);
            x.order(9, 0, 6, 1);
            x.order(9, 0, 4, 2);
            x.order(9, 1, 10, 3);
        };
        int[][] fallen = {{10, 0}, {9, 1}, {6, 1}, {5, 1}, {4, 1}, {3, 2}, {0, 2}};
        for (int[] row : fallen) {
            edges.answers("3 fallen then, of " + row[0], row[1], three, x -> x.change(0, 5, row[0]));
            edges.answers("3 fallen then, with one fallen before, of " + row[0], row[1] + 1, x -> {
                three.on(x);
                x.aside(1, 1);
            }, x -> x.change(0, 5, row[0]));
        }
        edges.answers("3 none without orders", 0, one, x -> x.change(0, 99, 0));
    }

    /** 3: "IllegalStateException: less than what is set aside." */
    private static void changeRefusals() {
        Edges.Start aside = x -> {
            x.arrival(5, 0, 10);
            x.aside(0, 4);
        };
        edges.refused("3 one less than what is set aside", Edges.STATE, aside, x -> x.change(0, 60, 3));
        edges.refused("3 0 when some are set aside", Edges.STATE, aside, x -> x.change(0, 9, 0));
        edges.answers("3 as many as are set aside", 0, aside, x -> x.change(0, 5, 4));
        edges.answers("3 as many as are set aside: what is left", 0, x -> {
            aside.on(x);
            x.change(0, 5, 4);
        }, x -> x.left(0));
        edges.answers("3 one more than are set aside: what is left", 1, x -> {
            aside.on(x);
            x.change(0, 5, 5);
        }, x -> x.left(0));
        edges.refused("3 all are set aside, one less", Edges.STATE, x -> {
            x.arrival(0, 0, 1000000);
            x.aside(0, 1000000);
        }, x -> x.change(0, 0, 999999));
        edges.refused("3 no arrival before a time outside", Edges.NONE, aside, x -> x.change(1, 100, 10));
        edges.refused("3 no arrival before a number outside", Edges.NONE, aside, x -> x.change(-1, 5, -1));
        edges.refused("3 a number below 0 before less than set aside", Edges.ARGUMENT, aside,
                x -> x.change(0, 5, -1));
        edges.refused("3 a time outside before less than set aside", Edges.ARGUMENT, aside, x -> x.change(0, 100, 3));
    }

    /** 4: "So many of an arrival are set aside (instead of what was): how many orders are fallen then." */
    private static void aside() {
        Edges.Start start = x -> {
            x.arrival(0, 0, 10);
            x.order(0, 0, 3, 1);
            x.order(0, 0, 4, 2);
        };
        int[][] fallen = {{0, 0}, {3, 0}, {4, 1}, {7, 1}, {8, 2}, {10, 2}};
        for (int[] row : fallen) {
            edges.answers("4 fallen then, " + row[0] + " set aside", row[1], start, x -> x.aside(0, row[0]));
            edges.answers("4 instead of what was, " + row[0], row[1], x -> {
                start.on(x);
                x.aside(0, 9);
            }, x -> x.aside(0, row[0]));
        }
        edges.answers("4 of this arrival alone", 10, x -> {
            x.arrival(0, 0, 10);
            x.arrival(0, 0, 10);
            x.aside(1, 9);
        }, x -> x.left(0));
        edges.answers("4 an arrival of nothing", 0, x -> x.arrival(0, 0, 0), x -> x.aside(0, 0));
    }

    /** 4: "IllegalArgumentException: below 0, or more than it brings." */
    private static void asideRefusals() {
        edges.range("4 from 0 to what it brings", 0, 10, x -> x.arrival(0, 0, 10), (x, n) -> x.aside(0, n));
        edges.range("4 to what it brings, some set aside", 0, 10, Edges.STOCKED, (x, n) -> x.aside(0, n));
        edges.range("4 of an arrival of nothing", 0, 0, x -> x.arrival(0, 0, 0), (x, n) -> x.aside(0, n));
        edges.range("4 of the most", 0, 1000000, x -> x.arrival(0, 0, 1000000), (x, n) -> x.aside(0, n));
        edges.range("4 to what it brings now", 0, 12, x -> {
            x.arrival(0, 0, 10);
            x.change(0, 0, 12);
        }, (x, n) -> x.aside(0, n));
        edges.numbers("4 an arrival that there is not", 3, Edges.STOCKED, (x, arrival) -> x.aside(arrival, 1));
        edges.refused("4 no arrival before a number below 0", Edges.NONE, Edges.STOCKED, x -> x.aside(3, -1));
        edges.refused("4 no arrival before a number too large", Edges.NONE, Edges.STOCKED, x -> x.aside(-1, 1000001));
    }

    /** 5: "A good's life (0 .. 100): how many orders are fallen then. IllegalArgumentException." */
    private static void life() {
        edges.range("5 a life of 0 .. 100", 0, 100, Edges.STOCKED, (x, times) -> x.life(0, times));
        Edges.Start start = x -> {
            x.arrival(0, 0, 1);
            x.arrival(0, 1, 1);
            x.order(99, 0, 1, 1);
            x.order(99, 1, 1, 1);
        };
        edges.answers("5 100 is always", 0, start, x -> x.life(0, 100));
        edges.answers("5 99 is enough for the last time", 0, start, x -> x.life(0, 99));
        edges.answers("5 98 is not", 1, start, x -> x.life(0, 98));
        edges.answers("5 0 is not", 1, start, x -> x.life(0, 0));
        edges.answers("5 both are fallen then", 2, x -> {
            start.on(x);
            x.life(1, 98);
        }, x -> x.life(0, 98));
        edges.answers("5 longer again", 0, x -> {
            start.on(x);
            x.life(0, 0);
        }, x -> x.life(0, 99));
        edges.answers("5 of a kit as well", 0, x -> x.kit(5, 0, 1), x -> x.life(5, 0));
    }

    /** 6: "The first good may (or may not any more) stand in for the second one: how many orders are fallen then." */
    private static void standIn() {
        Edges.Start start = x -> {
            x.arrival(0, 0, 5);
            x.arrival(0, 1, 5);
            x.standIn(0, 1, true);
            x.order(0, 1, 6, 1);
            x.order(0, 0, 4, 2);
        };
        edges.answers("6 may not any more", 1, start, x -> x.standIn(0, 1, false));
        edges.answers("6 may not any more: which is fallen", 1, x -> {
            start.on(x);
            x.standIn(0, 1, false);
        }, x -> x.state(0));
        edges.answers("6 may again", 0, x -> {
            start.on(x);
            x.standIn(0, 1, false);
        }, x -> x.standIn(0, 1, true));
        edges.answers("6 may not any more: no promise of it", 5, x -> {
            x.arrival(0, 0, 5);
            x.arrival(0, 1, 5);
            x.standIn(0, 1, true);
            x.standIn(0, 1, false);
        }, x -> x.promise(1, 0));
        edges.answers("6 the other way is another matter", 0, start, x -> x.standIn(1, 0, true));
        edges.answers("6 a part of a kit may", 0, x -> x.kit(5, 0, 1), x -> x.standIn(0, 3, true));
        edges.answers("6 all that are left may", 15, x -> {
            for (int good = 0; good < 6; good++) {
                x.arrival(0, good, good);
                if (good != 2) {
                    x.standIn(good, 2, true);
                }
            }
        }, x -> x.promise(2, 0));
    }

    /** 6: "IllegalArgumentException; IllegalStateException: one is a kit, or it was so." */
    private static void standInRefusals() {
        Edges.Start stocked = Edges.STOCKED;
        edges.refused("6 the first is a kit", Edges.STATE, stocked, x -> x.standIn(5, 3, true));
        edges.refused("6 the second is a kit", Edges.STATE, stocked, x -> x.standIn(3, 5, true));
        edges.refused("6 the first is a kit, not any more", Edges.STATE, stocked, x -> x.standIn(5, 3, false));
        edges.refused("6 both are kits", Edges.STATE, x -> {
            x.kit(5, 0, 1);
            x.kit(4, 0, 1);
        }, x -> x.standIn(5, 4, true));
        edges.refused("6 it was so: it may", Edges.STATE, stocked, x -> x.standIn(2, 1, true));
        edges.refused("6 it was so: it may not", Edges.STATE, stocked, x -> x.standIn(1, 2, false));
        edges.refused("6 it was so: not any more", Edges.STATE, x -> {
            x.standIn(2, 1, true);
            x.standIn(2, 1, false);
        }, x -> x.standIn(2, 1, false));
        edges.refused("6 a first good outside before a kit", Edges.ARGUMENT, stocked, x -> x.standIn(6, 5, true));
        edges.refused("6 a second good outside before a kit", Edges.ARGUMENT, stocked, x -> x.standIn(5, -1, true));
        edges.refused("6 no good stands in for itself", Edges.ARGUMENT, stocked, x -> x.standIn(3, 3, true));
        edges.refused("6 no good stands in for itself, before a kit", Edges.ARGUMENT, stocked,
                x -> x.standIn(5, 5, true));
    }

    /** 7: "A part comes to a good's recipe, so many (1 .. 100): how many parts it has." */
    private static void kit() {
        edges.range("7 so many (1 .. 100)", 1, 100, Edges.NEW, (x, n) -> x.kit(5, 0, n));
        edges.range("7 so many (1 .. 100) of a second part", 1, 100, x -> x.kit(3, 0, 1), (x, n) -> x.kit(3, 1, n));
        edges.answers("7 it has one", 1, Edges.NEW, x -> x.kit(0, 5, 1));
        edges.answers("7 it has two", 2, x -> x.kit(0, 5, 1), x -> x.kit(0, 4, 1));
        edges.answers("7 it has three", 3, x -> {
            x.kit(0, 5, 1);
            x.kit(0, 4, 1);
        }, x -> x.kit(0, 3, 1));
        edges.answers("7 another kit has its own", 1, x -> x.kit(0, 5, 1), x -> x.kit(1, 5, 1));
        edges.answers("7 one of a part", 100, x -> {
            x.kit(5, 0, 1);
            x.arrival(0, 0, 100);
        }, x -> x.promise(5, 0));
        edges.answers("7 a hundred of a part", 1, x -> {
            x.kit(5, 0, 100);
            x.arrival(0, 0, 199);
        }, x -> x.promise(5, 0));
        edges.answers("7 not enough for a hundred of a part", 0, x -> {
            x.kit(5, 0, 100);
            x.arrival(0, 0, 99);
        }, x -> x.promise(5, 0));
        edges.answers("7 a part may have an arrival, an order and stand-ins", 1, x -> {
            x.arrival(0, 0, 10);
            x.order(0, 0, 1, 1);
            x.standIn(0, 1, true);
            x.standIn(1, 0, true);
        }, x -> x.kit(5, 0, 1));
        edges.answers("7 a part may be a part of another kit", 1, x -> x.kit(5, 0, 1), x -> x.kit(4, 0, 1));
    }

    /** 7: "IllegalStateException: the part is a kit, or the same, or there already". */
    private static void kitRefusalsOfThePart() {
        Edges.Start kits = x -> {
            x.kit(5, 0, 1);
            x.kit(5, 1, 2);
        };
        edges.refused("7 the part is a kit", Edges.STATE, kits, x -> x.kit(4, 5, 1));
        edges.refused("7 the part is a kit, of a kit", Edges.STATE, x -> {
            x.kit(5, 0, 1);
            x.kit(4, 0, 1);
        }, x -> x.kit(4, 5, 1));
        for (int good = 0; good < 6; good++) {
            int g = good;
            edges.refused("7 the part is the same: " + g, Edges.STATE, Edges.NEW, x -> x.kit(g, g, 1));
        }
        edges.refused("7 the part is the same, of a kit", Edges.STATE, kits, x -> x.kit(5, 5, 1));
        edges.refused("7 the part is there already, the first", Edges.STATE, kits, x -> x.kit(5, 0, 1));
        edges.refused("7 the part is there already, the last", Edges.STATE, kits, x -> x.kit(5, 1, 2));
        edges.refused("7 the part is there already, with another number", Edges.STATE, kits, x -> x.kit(5, 1, 100));
        edges.refused("7 a number outside before the part is a kit", Edges.ARGUMENT, kits, x -> x.kit(4, 5, 0));
        edges.refused("7 a number outside before the same", Edges.ARGUMENT, kits, x -> x.kit(4, 4, 101));
        edges.refused("7 a number outside before there already", Edges.ARGUMENT, kits, x -> x.kit(5, 0, 0));
        edges.refused("7 a good outside before the part is a kit", Edges.ARGUMENT, kits, x -> x.kit(-1, 5, 1));
    }

    /** 7: "the good is a part of a kit, stands in or is stood in for, has an arrival or an order". */
    private static void kitRefusalsOfTheGood() {
        edges.refused("7 the good is the first part of a kit", Edges.STATE, Edges.STOCKED, x -> x.kit(0, 3, 1));
        edges.refused("7 the good is the only part of a kit", Edges.STATE, x -> x.kit(5, 3, 1), x -> x.kit(3, 4, 1));
        edges.refused("7 the good is the last part of a kit", Edges.STATE, x -> {
            x.kit(0, 2, 1);
            x.kit(0, 3, 1);
            x.kit(0, 4, 1);
        }, x -> x.kit(4, 5, 1));
        edges.refused("7 the good stands in", Edges.STATE, x -> x.standIn(3, 0, true), x -> x.kit(3, 4, 1));
        edges.refused("7 the good is stood in for", Edges.STATE, x -> x.standIn(0, 3, true), x -> x.kit(3, 4, 1));
        edges.refused("7 the good stands in for its part", Edges.STATE, x -> x.standIn(3, 4, true),
                x -> x.kit(3, 4, 1));
        edges.answers("7 it does not stand in any more", 1, x -> {
            x.standIn(3, 0, true);
            x.standIn(3, 0, false);
        }, x -> x.kit(3, 4, 1));
        edges.refused("7 the good has an arrival", Edges.STATE, x -> x.arrival(0, 3, 10), x -> x.kit(3, 4, 1));
        edges.refused("7 the good has an arrival of nothing", Edges.STATE, x -> x.arrival(99, 3, 0),
                x -> x.kit(3, 4, 1));
        edges.refused("7 the good has the last of ten arrivals", Edges.STATE, x -> {
            for (int i = 0; i < 9; i++) {
                x.arrival(0, 0, 1);
            }
            x.arrival(0, 3, 1);
        }, x -> x.kit(3, 4, 1));
        Edges.Start ordered = x -> {
            x.kit(3, 4, 1);
            x.arrival(0, 4, 10);
            x.order(0, 3, 5, 1);
        };
        edges.refused("7 the good has an order", Edges.STATE, ordered, x -> x.kit(3, 0, 1));
        edges.refused("7 the good has a fallen order", Edges.STATE, x -> {
            ordered.on(x);
            x.change(0, 0, 4);
        }, x -> x.kit(3, 0, 1));
        edges.refused("7 the good has a closed order", Edges.STATE, x -> {
            ordered.on(x);
            x.close(0);
        }, x -> x.kit(3, 0, 1));
        edges.answers("7 an order that could not be kept is none", 2, x -> {
            x.kit(3, 4, 1);
            x.order(0, 3, 1, 1);
        }, x -> x.kit(3, 0, 1));
        edges.answers("7 the part has an order, not the good", 2, x -> {
            x.kit(3, 4, 1);
            x.arrival(0, 4, 10);
            x.order(0, 4, 5, 1);
        }, x -> x.kit(3, 0, 1));
        edges.refused("7 a number outside before a part of a kit", Edges.ARGUMENT, Edges.STOCKED, x -> x.kit(0, 3, 0));
        edges.refused("7 a number outside before the good stands in", Edges.ARGUMENT, x -> x.standIn(3, 0, true),
                x -> x.kit(3, 4, 101));
        edges.refused("7 a number outside before an arrival", Edges.ARGUMENT, x -> x.arrival(0, 3, 1),
                x -> x.kit(3, 4, 0));
        edges.refused("7 a number outside before an order", Edges.ARGUMENT, ordered, x -> x.kit(3, 0, 101));
        edges.refused("7 a part outside before the good has an order", Edges.ARGUMENT, ordered, x -> x.kit(3, 6, 1));
    }

    /** 7: "UnsupportedOperationException: there are three." */
    private static void kitOfThree() {
        Edges.Start three = x -> {
            x.kit(0, 1, 1);
            x.kit(0, 2, 1);
            x.kit(0, 3, 1);
            x.kit(5, 1, 1);
            x.arrival(0, 1, 1);
            x.arrival(0, 2, 1);
            x.arrival(0, 3, 1);
        };
        edges.refused("7 there are three", Edges.ROOM, three, x -> x.kit(0, 4, 1));
        edges.refused("7 the part is a kit, before no room", Edges.STATE, three, x -> x.kit(0, 5, 1));
        edges.refused("7 the same, before no room", Edges.STATE, three, x -> x.kit(0, 0, 1));
        edges.refused("7 there already, before no room", Edges.STATE, three, x -> x.kit(0, 3, 1));
        edges.refused("7 an order, before no room", Edges.STATE, x -> {
            three.on(x);
            x.order(0, 0, 1, 1);
        }, x -> x.kit(0, 4, 1));
        edges.refused("7 a number outside before no room", Edges.ARGUMENT, three, x -> x.kit(0, 4, 101));
        edges.refused("7 a part outside before no room", Edges.ARGUMENT, three, x -> x.kit(0, 6, 1));
    }

    /** 8: "An order (1 .. 10000, rank 1 .. 9): its number if it can be kept with all that are covered, else -1". */
    private static void order() {
        Edges.Start plenty = x -> x.arrival(0, 0, 1000000);
        edges.range("8 an order of 1 .. 10000", 1, 10000, plenty, (x, n) -> x.order(0, 0, n, 1));
        edges.range("8 rank 1 .. 9", 1, 9, plenty, (x, rank) -> x.order(0, 0, 1, rank));
        edges.answers("8 10000", 0, plenty, x -> x.order(0, 0, 10000, 9));
        Edges.Start some = x -> {
            x.arrival(0, 0, 10);
            x.order(0, 0, 6, 9);
        };
        edges.answers("8 what is left", 1, some, x -> x.order(0, 0, 4, 1));
        edges.answers("8 one more than is left, if of a better rank", -1, some, x -> x.order(0, 0, 5, 1));
        Edges.Start refused = x -> {
            some.on(x);
            x.order(0, 0, 5, 1);
        };
        edges.answers("8 there is none then", 1, refused, x -> x.count(1));
        edges.refused("8 there is none then: its state", Edges.NONE, refused, x -> x.state(1));
        edges.same("8 there is none then: all else", Look.at(Edges.made(some)), Look.at(Edges.made(refused)));
        edges.answers("8 the next has its number", 1, refused, x -> x.order(0, 0, 4, 1));
        Edges.Start fallen = x -> {
            some.on(x);
            x.change(0, 0, 5);
        };
        edges.answers("8 with the covered ones, not the fallen", 1, fallen, x -> x.order(0, 0, 5, 9));
        edges.answers("8 more than a fallen one has left", -1, fallen, x -> x.order(0, 0, 6, 9));
        edges.answers("8 the fallen one stays so", 1, x -> {
            fallen.on(x);
            x.order(0, 0, 1, 9);
        }, x -> x.state(0));
        edges.answers("8 with none that is closed", 1, x -> {
            some.on(x);
            x.close(0);
        }, x -> x.order(0, 0, 10, 9));
        edges.answers("8 a kit of which the last part is missing", -1, x -> {
            x.kit(5, 0, 1);
            x.kit(5, 1, 1);
            x.arrival(0, 0, 10);
        }, x -> x.order(0, 5, 1, 1));
        edges.same("8 a kit of which the last part is missing: all else", Look.at(Edges.made(Edges.STOCKED)),
                Look.at(Edges.made(x -> {
                    Edges.STOCKED.on(x);
                    x.order(4, 5, 1, 1);
                })));
    }

    /** 8: "IllegalArgumentException, UnsupportedOperationException." */
    private static void orderRefusals() {
        Edges.Start full = x -> {
            x.arrival(0, 0, 1000000);
            for (int i = 0; i < 10; i++) {
                x.order(0, 0, 10000, 1);
            }
        };
        edges.refused("8 no room", Edges.ROOM, full, x -> x.order(0, 0, 1, 1));
        edges.refused("8 no room, before -1", Edges.ROOM, full, x -> x.order(0, 1, 1, 1));
        edges.refused("8 a due time outside before no room", Edges.ARGUMENT, full, x -> x.order(100, 0, 1, 1));
        edges.refused("8 a good outside before no room", Edges.ARGUMENT, full, x -> x.order(0, 6, 1, 1));
        edges.refused("8 a number outside before no room", Edges.ARGUMENT, full, x -> x.order(0, 0, 0, 1));
        edges.refused("8 a rank outside before no room", Edges.ARGUMENT, full, x -> x.order(0, 0, 1, 10));
        edges.refused("8 a number outside, not -1", Edges.ARGUMENT, Edges.NEW, x -> x.order(0, 0, 10001, 1));
    }

    /** 9: "An order is closed (its goods are still there): how many others are fallen then." */
    private static void close() {
        Edges.Start start = x -> {
            x.arrival(0, 0, 10);
            x.order(0, 0, 5, 1);
            x.order(0, 0, 3, 2);
            x.order(0, 0, 2, 3);
        };
        edges.answers("9 none is fallen", 0, start, x -> x.close(0));
        edges.answers("9 its goods are still there", 5, x -> {
            start.on(x);
            x.close(0);
        }, x -> x.promise(0, 0));
        edges.answers("9 its goods are left", 10, x -> {
            start.on(x);
            x.close(0);
            x.close(1);
            x.close(2);
        }, x -> x.left(0));
        int[][] fallen = {{9, 0, 0}, {5, 0, 0}, {4, 0, 1}, {3, 0, 1}, {2, 0, 1}, {1, 0, 2}, {5, 1, 1}, {7, 1, 0}};
        for (int[] row : fallen) {
            edges.answers("9 others that are fallen: of " + row[0] + ", order " + row[1], row[2], x -> {
                start.on(x);
                x.change(0, 0, row[0]);
            }, x -> x.close(row[1]));
        }
        edges.answers("9 a fallen one is not counted itself", 0, x -> {
            x.arrival(0, 0, 10);
            x.order(0, 0, 5, 1);
            x.change(0, 0, 0);
        }, x -> x.close(0));
        edges.answers("9 the last of ten", 0, x -> {
            x.arrival(0, 0, 10);
            for (int i = 0; i < 10; i++) {
                x.order(0, 0, 1, 1);
            }
        }, x -> x.close(9));
    }

    /** 9: "IllegalStateException: it is." */
    private static void closeRefusals() {
        edges.refused("9 it is closed", Edges.STATE, Edges.STOCKED, x -> x.close(1));
        edges.refused("9 it is closed, having been fallen", Edges.STATE, x -> {
            Edges.STOCKED.on(x);
            x.close(3);
        }, x -> x.close(3));
        edges.refused("9 an order that there is not", Edges.NONE, Edges.STOCKED, x -> x.close(4));
        edges.numbers("9 an order that there is not", 4, x -> {
            x.arrival(0, 0, 4);
            for (int i = 0; i < 4; i++) {
                x.order(0, 0, 1, 1);
            }
        }, (x, order) -> x.close(order));
    }

    /** 10: "The greatest number of a good that could be kept for a due time with all covered orders." */
    private static void promise() {
        Edges.Start start = x -> {
            x.arrival(2, 0, 10);
            x.arrival(6, 0, 10);
            x.order(6, 0, 12, 1);
        };
        int[][] want = {{1, 0}, {2, 8}, {5, 8}, {6, 8}, {99, 8}};
        for (int[] row : want) {
            edges.answers("10 the greatest at " + row[0], row[1], start, x -> x.promise(0, row[0]));
            edges.answers("10 so many can be kept at " + row[0], row[1] == 0 ? -1 : 1, start,
                    x -> x.order(row[0], 0, Math.max(1, row[1]), 9));
            edges.answers("10 one more can't be kept at " + row[0], -1, start,
                    x -> x.order(row[0], 0, row[1] + 1, 1));
        }
        edges.same("10 it changes nothing", Look.at(Edges.made(Edges.STOCKED)), Look.at(Edges.made(x -> {
            Edges.STOCKED.on(x);
            x.promise(5, 99);
            x.promise(0, 9);
        })));
        edges.answers("10 with all covered orders, not the fallen", 11, x -> {
            start.on(x);
            x.change(1, 6, 1);
        }, x -> x.promise(0, 6));
        edges.answers("10 more than an order may want", 10001, x -> x.arrival(0, 0, 10001), x -> x.promise(0, 0));
        edges.answers("10 all that can be brought", 10000000, x -> {
            for (int i = 0; i < 10; i++) {
                x.arrival(0, 0, 1000000);
            }
        }, x -> x.promise(0, 99));
        edges.answers("10 none when all is set aside", 0, x -> {
            x.arrival(0, 0, 10);
            x.aside(0, 10);
        }, x -> x.promise(0, 99));
        edges.answers("10 orders are kept by what is left elsewhere", 10, x -> {
            x.arrival(0, 0, 10);
            x.arrival(0, 1, 10);
            x.standIn(1, 0, true);
            x.order(0, 0, 10, 1);
        }, x -> x.promise(0, 0));
    }

    /** 10: the same of a kit: each part, and parts that share arrivals. */
    private static void promiseOfAKit() {
        Edges.Start start = x -> {
            x.kit(5, 0, 3);
            x.kit(5, 1, 2);
            x.arrival(0, 0, 9);
            x.arrival(0, 1, 6);
        };
        edges.answers("10 of a kit", 3, start, x -> x.promise(5, 0));
        edges.answers("10 of a kit, one of the first part less", 2, x -> {
            start.on(x);
            x.aside(0, 1);
        }, x -> x.promise(5, 0));
        edges.answers("10 of a kit, one of the last part less", 2, x -> {
            start.on(x);
            x.aside(1, 1);
        }, x -> x.promise(5, 0));
        edges.answers("10 of a kit, rests make no other one", 3, x -> {
            start.on(x);
            x.change(0, 0, 11);
            x.change(1, 0, 7);
        }, x -> x.promise(5, 0));
        edges.answers("10 of a kit, parts share a stand-in", 4, x -> {
            start.on(x);
            x.arrival(0, 2, 5);
            x.standIn(2, 0, true);
            x.standIn(2, 1, true);
        }, x -> x.promise(5, 0));
        edges.answers("10 of a kit, parts share one less", 3, x -> {
            start.on(x);
            x.arrival(0, 2, 4);
            x.standIn(2, 0, true);
            x.standIn(2, 1, true);
        }, x -> x.promise(5, 0));
        edges.answers("10 of a kit before its parts come", 0, x -> {
            start.on(x);
            x.change(1, 5, 6);
        }, x -> x.promise(5, 4));
        edges.answers("10 of a kit of three parts in all arrivals", 33333, x -> {
            x.kit(5, 0, 100);
            x.kit(5, 1, 100);
            x.kit(5, 2, 100);
            x.standIn(0, 1, true);
            x.standIn(0, 2, true);
            for (int i = 0; i < 10; i++) {
                x.arrival(0, 0, 1000000);
            }
        }, x -> x.promise(5, 99));
    }

    /** 11: "A thousand times promise() divided by what all arrivals that can be used for it bring". */
    private static void share() {
        Edges.Start start = x -> {
            x.arrival(0, 0, 7);
            x.arrival(5, 0, 7);
            x.arrival(0, 1, 3);
            x.order(0, 0, 2, 1);
        };
        edges.answers("11 rests are dropped", 714, start, x -> x.share(0, 0));
        edges.answers("11 rests are dropped, just below one more", 999, x -> {
            x.arrival(0, 0, 10000);
            x.order(0, 0, 1, 1);
        }, x -> x.share(0, 0));
        edges.answers("11 rests are dropped, to nothing", 0, x -> {
            x.arrival(0, 0, 10001);
            x.aside(0, 9991);
        }, x -> x.share(0, 0));
        edges.answers("11 those that can't be used yet don't count", 714, start, x -> x.share(0, 4));
        edges.answers("11 from its time on an arrival counts", 857, start, x -> x.share(0, 5));
        edges.answers("11 those that can't be used any more don't count", 1000, x -> {
            start.on(x);
            x.life(0, 4);
        }, x -> x.share(0, 9));
        edges.answers("11 of the good, or its stand-ins", 800, x -> {
            start.on(x);
            x.standIn(1, 0, true);
        }, x -> x.share(0, 0));
        edges.answers("11 not of what it stands in for", 1000, x -> {
            start.on(x);
            x.standIn(1, 0, true);
        }, x -> x.share(1, 0));
        edges.answers("11 what they bring, set aside or not", 571, x -> {
            start.on(x);
            x.aside(0, 1);
        }, x -> x.share(0, 0));
        edges.answers("11 all of it set aside", 0, x -> {
            x.arrival(0, 0, 7);
            x.aside(0, 7);
        }, x -> x.share(0, 0));
        Edges.Start most = x -> {
            for (int i = 0; i < 10; i++) {
                x.arrival(0, 0, 1000000);
            }
        };
        edges.answers("11 a thousand times the most is no wrap-around", 1000, most, x -> x.share(0, 0));
        edges.answers("11 nor is it just beyond the greatest int", 214, x -> {
            most.on(x);
            for (int i = 0; i < 7; i++) {
                x.aside(i, 1000000);
            }
            x.aside(7, 852516);
        }, x -> x.share(0, 0));
    }

    /** 11: "IllegalArgumentException; ArithmeticException (the machine's own): that is 0." And "of a kit nothing". */
    private static void shareRefusals() {
        edges.refused("11 that is 0: no arrival", Edges.ZERO, Edges.STOCKED, x -> x.share(3, 99));
        edges.refused("11 that is 0: an arrival of nothing", Edges.ZERO, x -> x.arrival(0, 0, 0), x -> x.share(0, 0));
        edges.refused("11 that is 0: not there yet", Edges.ZERO, x -> x.arrival(5, 0, 10), x -> x.share(0, 4));
        edges.refused("11 that is 0: its life is over", Edges.ZERO, x -> {
            x.arrival(5, 0, 10);
            x.life(0, 4);
        }, x -> x.share(0, 10));
        edges.refused("11 of a kit nothing", Edges.ZERO, x -> {
            x.kit(5, 0, 1);
            x.arrival(0, 0, 10);
        }, x -> x.share(5, 99));
        edges.refused("11 a good outside before 0", Edges.ARGUMENT, Edges.NEW, x -> x.share(6, 0));
        edges.refused("11 a time outside before 0", Edges.ARGUMENT, Edges.NEW, x -> x.share(0, 100));
        edges.refused("11 a time outside of a kit", Edges.ARGUMENT, Edges.STOCKED, x -> x.share(5, -1));
        edges.answers("11 of 1 it is not 0", 1000, x -> x.arrival(0, 0, 1), x -> x.share(0, 0));
    }

    /** 12: "The i-th covered order (upward) ...; -1 if there are not so many." */
    private static void bars() {
        Edges.Start start = x -> {
            x.arrival(0, 0, 10);
            x.arrival(0, 1, 10);
            x.order(0, 0, 2, 9);
            x.order(0, 1, 2, 5);
            x.order(0, 0, 2, 1);
            x.order(0, 0, 2, 5);
        };
        int[] want = {0, 2, 3, -1};
        for (int place = 0; place < want.length; place++) {
            int i = place;
            edges.answers("12 upward, " + i, want[i], start, x -> x.bars(0, 0, i));
        }
        edges.answers("12 not so many, far", -1, start, x -> x.bars(0, 0, Integer.MAX_VALUE));
        edges.answers("12 none at all", -1, start, x -> x.bars(2, 0, 0));
        edges.answers("12 covered ones, not the fallen", 2, x -> {
            start.on(x);
            x.aside(0, 5);
        }, x -> x.bars(0, 0, 0));
        edges.answers("12 covered ones, not the fallen: how many", -1, x -> {
            start.on(x);
            x.aside(0, 5);
        }, x -> x.bars(0, 0, 2));
        edges.answers("12 covered ones, not the closed", 3, x -> {
            start.on(x);
            x.close(2);
        }, x -> x.bars(0, 0, 1));
        edges.answers("12 the last of ten", 9, x -> {
            x.arrival(0, 0, 10);
            for (int i = 0; i < 10; i++) {
                x.order(0, 0, 1, 1);
            }
        }, x -> x.bars(0, 0, 9));
        edges.answers("12 no more than ten", -1, x -> {
            x.arrival(0, 0, 10);
            for (int i = 0; i < 10; i++) {
                x.order(0, 0, 1, 1);
            }
        }, x -> x.bars(0, 0, 10));
        edges.answers("12 before an arrival could be used", -1, x -> {
            x.arrival(5, 0, 10);
            x.order(9, 0, 1, 1);
        }, x -> x.bars(0, 4, 0));
        edges.answers("12 from its time on", 0, x -> {
            x.arrival(5, 0, 10);
            x.order(9, 0, 1, 1);
        }, x -> x.bars(0, 5, 0));
    }

    /** 12: "or from arrivals that one of these could use instead, and so on, in the plan". */
    private static void barsByWhatCouldBeUsedInstead() {
        Edges.Start chain = x -> {
            for (int good = 0; good < 5; good++) {
                x.arrival(good, good, 5);
            }
            x.standIn(1, 0, true);
            x.standIn(2, 1, true);
            x.standIn(3, 2, true);
            x.order(9, 4, 5, 1);
            for (int good = 3; good >= 0; good--) {
                x.order(9, good, 5, 1);
            }
        };
        int[] want = {1, 2, 3, 4, -1};
        for (int place = 0; place < want.length; place++) {
            int i = place;
            edges.answers("12 and so on, " + i, want[i], chain, x -> x.bars(0, 0, i));
        }
        edges.answers("12 not back along the way", 1, chain, x -> x.bars(3, 9, 0));
        edges.answers("12 not back along the way: how many", -1, chain, x -> x.bars(3, 9, 1));
        edges.answers("12 not what could not be used for the due time", -1, x -> {
            x.arrival(0, 0, 5);
            x.arrival(6, 1, 5);
            x.standIn(1, 0, true);
            x.order(5, 0, 5, 1);
            x.order(9, 1, 5, 1);
        }, x -> x.bars(0, 0, 1));
        edges.answers("12 what could be used for the due time", 1, x -> {
            x.arrival(0, 0, 5);
            x.arrival(5, 1, 5);
            x.standIn(1, 0, true);
            x.order(5, 0, 5, 1);
            x.order(9, 1, 5, 1);
        }, x -> x.bars(0, 0, 1));
        Edges.Start kit = x -> {
            x.kit(5, 0, 1);
            x.kit(5, 1, 1);
            x.arrival(0, 0, 5);
            x.arrival(0, 1, 5);
            x.order(0, 5, 2, 1);
            x.order(0, 1, 2, 1);
        };
        edges.answers("12 a kit's order takes a part", 0, kit, x -> x.bars(0, 0, 0));
        edges.answers("12 another part can't be used instead", -1, kit, x -> x.bars(0, 0, 1));
    }

    /** 12: "IllegalArgumentException: also i below 0; IllegalStateException: it is a kit." */
    private static void barsRefusals() {
        edges.fromZeroOn("12 i from 0 on", Edges.STOCKED, (x, i) -> x.bars(0, 9, i));
        edges.refused("12 it is a kit", Edges.STATE, Edges.STOCKED, x -> x.bars(5, 9, 0));
        edges.refused("12 it is a kit without orders", Edges.STATE, x -> x.kit(0, 1, 1), x -> x.bars(0, 0, 9));
        edges.refused("12 i below 0 before a kit", Edges.ARGUMENT, Edges.STOCKED, x -> x.bars(5, 9, -1));
        edges.refused("12 a time outside before a kit", Edges.ARGUMENT, Edges.STOCKED, x -> x.bars(5, 100, 0));
        edges.refused("12 i below 0 when there are none", Edges.ARGUMENT, Edges.NEW, x -> x.bars(0, 0, -1));
    }

    /** 13: "0 the arrival, 1 the demand's good, 2 how many (the parts that are not 0 ...); -1 if there are not so many." */
    private static void flow() {
        Edges.Start start = x -> {
            x.arrival(0, 0, 0);
            x.arrival(1, 0, 4);
            x.arrival(2, 0, 3);
            x.arrival(3, 1, 5);
            x.arrival(4, 0, 6);
            x.aside(2, 3);
            x.order(9, 0, 5, 1);
        };
        int[][] want = {{1, 0, 4}, {4, 0, 1}, {-1, -1, -1}, {-1, -1, -1}};
        for (int part = 0; part < want.length; part++) {
            for (int what = 0; what < 3; what++) {
                int i = part;
                int w = what;
                edges.answers("13 the parts that are not 0: " + i + ", " + w, want[i][w], start,
                        x -> x.flow(0, i, w));
            }
        }
        for (int what = 0; what < 3; what++) {
            int w = what;
            edges.answers("13 not so many, far: " + w, -1, start, x -> x.flow(0, Integer.MAX_VALUE, w));
        }
        Edges.Start allParts = x -> {
            x.kit(5, 0, 1);
            x.kit(5, 1, 1);
            x.kit(5, 2, 1);
            for (int i = 0; i < 9; i++) {
                x.arrival(9 - i, i % 3, 1);
            }
            x.order(9, 5, 3, 1);
        };
        int[] arrivals = {6, 3, 0, 7, 4, 1, 8, 5, 2, -1};
        for (int part = 0; part < arrivals.length; part++) {
            int i = part;
            edges.answers("13 in the order in which they are planned: " + i, arrivals[i], allParts,
                    x -> x.flow(0, i, 0));
        }
    }

    /** 12 and 13: "-1 if there are not so many", where nothing has room left: three parts, ten arrivals. */
    private static void flowAndBarsOfAFullObject() {
        Edges.Start full = x -> {
            x.kit(5, 0, 1);
            x.kit(5, 1, 1);
            x.kit(5, 2, 1);
            x.arrival(0, 1, 10);
            x.arrival(0, 0, 10);
            x.arrival(0, 2, 10);
            for (int i = 3; i < 10; i++) {
                x.arrival(i, 3, 1);
            }
            x.order(99, 5, 3, 1);
            x.order(99, 3, 7, 1);
            x.order(99, 1, 2, 1);
        };
        int[][][] parts = {{{1, 0, 3}, {0, 1, 3}, {2, 2, 3}},
            {{3, 3, 1}, {4, 3, 1}, {5, 3, 1}, {6, 3, 1}, {7, 3, 1}, {8, 3, 1}, {9, 3, 1}}, {{0, 1, 2}}};
        for (int order = 0; order < parts.length; order++) {
            for (int part = 0; part < 12; part++) {
                for (int what = 0; what < 3; what++) {
                    int o = order;
                    int i = part;
                    int w = what;
                    edges.answers("13 of a full object: " + o + ", " + i + ", " + w,
                            i < parts[o].length ? parts[o][i][w] : -1, full, x -> x.flow(o, i, w));
                }
            }
        }
        int[][] bars = {{0, -1}, {0, 2, -1}, {0, -1}, {1, -1}, {-1}};
        for (int good = 0; good < bars.length; good++) {
            for (int place = 0; place < bars[good].length; place++) {
                int g = good;
                int i = place;
                edges.answers("12 of a full object: " + g + ", " + i, bars[g][i], full, x -> x.bars(g, 99, i));
            }
        }
    }

    /** 13: "NoSuchElementException ...; IllegalArgumentException: i below 0, or no such what; ...: it is not covered." */
    private static void flowRefusals() {
        Edges.Start stocked = Edges.STOCKED;
        edges.fromZeroOn("13 i from 0 on", stocked, (x, i) -> x.flow(0, i, 0));
        edges.range("13 a what of 0 .. 2", 0, 2, stocked, (x, what) -> x.flow(0, 0, what));
        edges.range("13 a what of 0 .. 2 of a part behind the last", 0, 2, stocked, (x, what) -> x.flow(0, 99, what));
        edges.numbers("13 no such order", 2, x -> {
            x.arrival(0, 0, 2);
            x.order(0, 0, 1, 1);
            x.order(0, 0, 1, 1);
        }, (x, order) -> x.flow(order, 0, 0));
        edges.refused("13 it is fallen", Edges.STATE, stocked, x -> x.flow(3, 0, 0));
        edges.refused("13 it is closed", Edges.STATE, stocked, x -> x.flow(1, 0, 0));
        edges.refused("13 it is closed, a part behind the last", Edges.STATE, stocked, x -> x.flow(1, 99, 2));
        edges.refused("13 no such order before i below 0", Edges.NONE, stocked, x -> x.flow(4, -1, 0));
        edges.refused("13 no such order before no such what", Edges.NONE, stocked, x -> x.flow(-1, 0, 3));
        edges.refused("13 i below 0 before it is fallen", Edges.ARGUMENT, stocked, x -> x.flow(3, -1, 0));
        edges.refused("13 no such what before it is fallen", Edges.ARGUMENT, stocked, x -> x.flow(3, 0, 3));
        edges.refused("13 i below 0 before it is closed", Edges.ARGUMENT, stocked, x -> x.flow(1, -1, 0));
        edges.refused("13 no such what before it is closed", Edges.ARGUMENT, stocked, x -> x.flow(1, 0, -1));
    }

    /** 14: "Of an order: 0 covered, 1 fallen, 2 closed. NoSuchElementException." */
    private static void state() {
        int[] want = {0, 2, 0, 1};
        for (int order = 0; order < want.length; order++) {
            int o = order;
            edges.answers("14 order " + o, want[o], Edges.STOCKED, x -> x.state(o));
        }
        edges.numbers("14 an order that there is not", 4, Edges.STOCKED, (x, order) -> x.state(order));
        edges.answers("14 a fallen one that is closed", 2, x -> {
            Edges.STOCKED.on(x);
            x.close(3);
        }, x -> x.state(3));
        edges.answers("14 a fallen one that is covered again", 0, x -> {
            Edges.STOCKED.on(x);
            x.aside(0, 4);
        }, x -> x.state(3));
        edges.answers("14 one less set aside is not enough for it", 1, x -> {
            x.arrival(0, 0, 2);
            x.order(0, 0, 2, 1);
            x.aside(0, 2);
            x.aside(0, 1);
        }, x -> x.state(0));
    }

    /** 15: "How many of an arrival the plan does not take (less what is set aside). NoSuchElementException." */
    private static void left() {
        edges.numbers("15 an arrival that there is not", 3, Edges.STOCKED, (x, arrival) -> x.left(arrival));
        edges.numbers("15 the last of ten", 10, x -> {
            for (int i = 0; i < 10; i++) {
                x.arrival(0, 0, 1);
            }
        }, (x, arrival) -> x.left(arrival));
        Edges.Start start = x -> {
            x.arrival(0, 0, 10);
            x.arrival(0, 0, 10);
            x.arrival(0, 0, 0);
            x.aside(0, 2);
            x.order(0, 0, 8, 1);
        };
        edges.answers("15 the plan takes all that is not set aside", 0, start, x -> x.left(0));
        edges.answers("15 the plan takes none", 10, start, x -> x.left(1));
        edges.answers("15 of nothing", 0, start, x -> x.left(2));
        edges.answers("15 the plan takes one", 9, x -> {
            start.on(x);
            x.order(0, 0, 1, 1);
        }, x -> x.left(1));
        edges.answers("15 the last one", 0, x -> {
            start.on(x);
            x.order(0, 0, 10, 1);
        }, x -> x.left(1));
        edges.answers("15 a fallen order takes none", 7, x -> {
            start.on(x);
            x.aside(1, 10);
            x.aside(0, 3);
        }, x -> x.left(0));
        edges.answers("15 all is set aside", 0, x -> {
            start.on(x);
            x.aside(1, 10);
        }, x -> x.left(1));
    }

    /** 16: "0 arrivals, 1 orders, 2 covered ones, 3 fallen ones, 4 all that arrivals bring ..., 5 all demands ...". */
    private static void count() {
        int[] want = {3, 4, 2, 1, 5 + 8 + 6, 4 + 2 + 5};
        for (int what = 0; what < want.length; what++) {
            int w = what;
            edges.answers("16 count " + w, want[w], Edges.STOCKED, x -> x.count(w));
        }
        Edges.Start most = x -> {
            x.kit(5, 0, 100);
            for (int i = 0; i < 10; i++) {
                x.arrival(0, 0, 1000000);
            }
            for (int i = 0; i < 10; i++) {
                x.order(0, 5, 10000, 1);
            }
        };
        int[] wantOfMost = {10, 10, 10, 0, 10000000, 10000000};
        for (int what = 0; what < wantOfMost.length; what++) {
            int w = what;
            edges.answers("16 count of the most " + w, wantOfMost[w], most, x -> x.count(w));
        }
        Edges.Start none = x -> {
            most.on(x);
            for (int i = 0; i < 10; i++) {
                x.aside(i, 1000000);
            }
        };
        int[] wantOfNone = {10, 10, 0, 10, 0, 0};
        for (int what = 0; what < wantOfNone.length; what++) {
            int w = what;
            edges.answers("16 count when all is set aside " + w, wantOfNone[w], none, x -> x.count(w));
        }
    }

    /** 16: "-1 for another what." */
    private static void countOfAnotherWhat() {
        for (int what : new int[] {-1, 6, 7, Integer.MIN_VALUE, Integer.MAX_VALUE}) {
            edges.answers("16 another what, new: " + what, -1, Edges.NEW, x -> x.count(what));
            edges.answers("16 another what: " + what, -1, Edges.STOCKED, x -> x.count(what));
        }
    }
}
