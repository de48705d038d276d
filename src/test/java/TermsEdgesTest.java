/** Each sentence of the document's first sections and 'Terms' that names a boundary case, by itself. */
public final class TermsEdgesTest {
    private static final Edges edges = new Edges("TermsEdgesTest");

    private static final Edges.Start FULL_OF_ARRIVALS = x -> {
        for (int i = 0; i < 10; i++) {
            x.arrival(i * 11, i % 5, 100 + i);
        }
    };

    private static final Edges.Start FULL_OF_ORDERS = x -> {
        x.arrival(0, 0, 1000);
        for (int i = 0; i < 10; i++) {
            x.order(i, 0, 1 + i, 9 - i % 9);
        }
    };

    public static void main(String[] args) {
        usedFor512Calls();
        goods();
        times();
        atMostTenArrivals();
        lifeFromItsOwnTimeOn();
        lifeToSoManyTimesBehind();
        lifeIsAlwaysAtFirst();
        lifeOfTheStandIn();
        standInForAnotherOne();
        kitOfOneToThreeParts();
        partsAreNoKits();
        kitIsNeverTaken();
        atMostTenOrders();
        tenOrdersOfThreeParts();
        demandsOfAKit();
        demandsOfAGood();
        metFromItsGoodOrAStandIn();
        metInFull();
        noMoreThanAnArrivalHas();
        lesserRankFirst();
        ofEqualRanksTheLesserNumber();
        ranksInAnyOrder();
        keptByWhatOthersLeave();
        coveredWithThoseSoFar();
        whateverIsLess();
        whateverIsMore();
        planByRank();
        planByDemands();
        planByTimeThenNumber();
        planLeavesWhatOthersNeed();
        planKeepsWhatWasPlannedBefore();
        planAfterEveryCall();
        edges.end();
    }

    /** "An object is used for at most 512 calls after it has been made". */
    private static void usedFor512Calls() {
        Edges.Start calls511 = x -> {
            x.arrival(0, 0, 1000000);
            x.order(0, 0, 7, 1);
            for (int i = 0; i < 509; i++) {
                x.change(0, i % 100, 1000000 - i);
            }
        };
        edges.answers("used for at most 512 calls: the last one", 999492, calls511, x -> x.promise(0, 99));
        edges.answers("used for at most 512 calls: a refused last one", 999493, x -> {
            x.arrival(0, 0, 1000000);
            for (int i = 0; i < 509; i++) {
                Due.outcome(() -> x.arrival(100, 0, 1));
            }
            x.aside(0, 507);
        }, x -> x.left(0));
    }

    /** "GOODS 0 .. 5". */
    private static void goods() {
        String sentence = "GOODS 0 .. 5, ";
        Edges.Start ends = x -> {
            x.arrival(0, 0, 10);
            x.arrival(0, 5, 10);
        };
        edges.range(sentence + "arrival", 0, 5, Edges.NEW, (x, good) -> x.arrival(0, good, 1));
        edges.range(sentence + "life", 0, 5, ends, (x, good) -> x.life(good, 1));
        edges.range(sentence + "standIn's other", 0, 5, ends, (x, other) -> x.standIn(other, 3, true));
        edges.range(sentence + "standIn's good", 0, 5, ends, (x, good) -> x.standIn(3, good, true));
        edges.range(sentence + "kit's good", 0, 5, Edges.NEW, (x, good) -> x.kit(good, 3, 1));
        edges.range(sentence + "kit's part", 0, 5, ends, (x, part) -> x.kit(3, part, 1));
        edges.range(sentence + "order", 0, 5, ends, (x, good) -> x.order(0, good, 10, 1));
        edges.range(sentence + "promise", 0, 5, ends, (x, good) -> x.promise(good, 0));
        edges.range(sentence + "share", 0, 5, ends, (x, good) -> x.share(good, 0));
        edges.range(sentence + "bars", 0, 5, ends, (x, good) -> x.bars(good, 0, 0));
        for (int good : new int[] {0, 5}) {
            edges.answers(sentence + "an order of " + good, 0, ends, x -> x.order(0, good, 10, 1));
            edges.answers(sentence + "a promise of " + good, 10, ends, x -> x.promise(good, 0));
        }
    }

    /** "TIMES 0 .. 99". */
    private static void times() {
        String sentence = "TIMES 0 .. 99, ";
        Edges.Start one = x -> x.arrival(0, 0, 10);
        edges.range(sentence + "arrival", 0, 99, Edges.NEW, (x, time) -> x.arrival(time, 0, 1));
        edges.range(sentence + "change", 0, 99, one, (x, time) -> x.change(0, time, 1));
        edges.range(sentence + "order", 0, 99, one, (x, due) -> x.order(due, 0, 1, 1));
        edges.range(sentence + "promise", 0, 99, one, (x, time) -> x.promise(0, time));
        edges.range(sentence + "share", 0, 99, one, (x, time) -> x.share(0, time));
        edges.range(sentence + "bars", 0, 99, one, (x, time) -> x.bars(0, time, 0));
        edges.answers(sentence + "an order at 0", 0, one, x -> x.order(0, 0, 10, 1));
        edges.answers(sentence + "an order at 99", 0, one, x -> x.order(99, 0, 10, 1));
    }

    /** "An ARRIVAL (at most 10, as they come)". */
    private static void atMostTenArrivals() {
        String sentence = "ARRIVAL (at most 10, as they come): ";
        for (int i = 0; i < 10; i++) {
            int n = i;
            edges.answers(sentence + "number " + n, n, x -> {
                for (int k = 0; k < n; k++) {
                    x.arrival(99 - k, 5 - k % 6, k);
                }
            }, x -> x.arrival(0, 0, 1));
        }
        edges.answers(sentence + "ten", 10, FULL_OF_ARRIVALS, x -> x.count(0));
        edges.answers(sentence + "the tenth is there", 109, FULL_OF_ARRIVALS, x -> x.left(9));
        edges.answers(sentence + "the tenth is used", 104 + 109, FULL_OF_ARRIVALS, x -> x.promise(4, 99));
        edges.refused(sentence + "an eleventh", Edges.ROOM, FULL_OF_ARRIVALS, x -> x.arrival(0, 0, 1));
        edges.refused(sentence + "an eleventh of nothing", Edges.ROOM, FULL_OF_ARRIVALS, x -> x.arrival(0, 0, 0));
        edges.refused(sentence + "full of arrivals of nothing", Edges.ROOM, x -> {
            for (int i = 0; i < 10; i++) {
                x.arrival(0, 0, 0);
            }
        }, x -> x.arrival(0, 0, 1));
    }

    /** "can be used for a due time from its own time on". */
    private static void lifeFromItsOwnTimeOn() {
        String sentence = "used from its own time on: ";
        for (int time : new int[] {0, 1, 50, 98, 99}) {
            Edges.Start start = x -> x.arrival(time, 0, 7);
            edges.answers(sentence + "at " + time, 7, start, x -> x.promise(0, time));
            edges.answers(sentence + "an order for " + time, 0, start, x -> x.order(time, 0, 7, 1));
            if (time > 0) {
                edges.answers(sentence + "not before " + time, 0, start, x -> x.promise(0, time - 1));
                edges.answers(sentence + "no order before " + time, -1, start, x -> x.order(time - 1, 0, 1, 1));
                edges.answers(sentence + "0 before " + time, 0, start, x -> x.promise(0, 0));
            }
        }
    }

    /** "to so many times behind it". */
    private static void lifeToSoManyTimesBehind() {
        String sentence = "used to so many times behind it: ";
        for (int life : new int[] {0, 1, 2, 49, 98, 99, 100}) {
            for (int time : new int[] {0, 1, 48, 99}) {
                Edges.Start start = x -> {
                    x.arrival(time, 0, 7);
                    x.life(0, life);
                };
                int last = Math.min(99, time + life);
                edges.answers(sentence + time + " and " + life, 7, start, x -> x.promise(0, last));
                edges.answers(sentence + "an order, " + time + " and " + life, 0, start, x -> x.order(last, 0, 7, 1));
                if (last < 99) {
                    edges.answers(sentence + "no more, " + time + " and " + life, 0, start,
                            x -> x.promise(0, last + 1));
                    edges.answers(sentence + "no order, " + time + " and " + life, -1, start,
                            x -> x.order(last + 1, 0, 1, 1));
                }
            }
        }
    }

    /** "(100 at first, that is always)". */
    private static void lifeIsAlwaysAtFirst() {
        String sentence = "a life of 100 at first, that is always: ";
        for (int good = 0; good < 6; good++) {
            int g = good;
            Edges.Start start = x -> x.arrival(0, g, 7);
            edges.answers(sentence + "good " + g, 7, start, x -> x.promise(g, 99));
            edges.answers(sentence + "good " + g + " when others live shorter", 7, x -> {
                x.arrival(0, g, 7);
                x.life((g + 1) % 6, 0);
                x.life((g + 5) % 6, 0);
            }, x -> x.promise(g, 99));
        }
    }

    /** "an arrival of it": the life is that of the good that has arrived, for whatever it stands in. */
    private static void lifeOfTheStandIn() {
        String sentence = "the life of the good that has arrived: ";
        Edges.Start shortOther = x -> {
            x.arrival(10, 1, 7);
            x.standIn(1, 0, true);
            x.life(1, 5);
        };
        edges.answers(sentence + "last", 7, shortOther, x -> x.promise(0, 15));
        edges.answers(sentence + "behind", 0, shortOther, x -> x.promise(0, 16));
        Edges.Start shortGood = x -> {
            x.arrival(10, 1, 7);
            x.standIn(1, 0, true);
            x.life(0, 5);
        };
        edges.answers(sentence + "not that of the good it stands in for", 7, shortGood, x -> x.promise(0, 99));
        edges.answers(sentence + "not that of a kit", 7, x -> {
            x.arrival(0, 1, 7);
            x.kit(5, 1, 1);
            x.life(5, 0);
        }, x -> x.promise(5, 99));
    }

    /** "A good may be a STAND-IN for another one." */
    private static void standInForAnotherOne() {
        String sentence = "STAND-IN for another one: ";
        for (int good = 0; good < 6; good++) {
            int g = good;
            edges.refused(sentence + g + " for itself", Edges.ARGUMENT, Edges.NEW, x -> x.standIn(g, g, true));
            edges.refused(sentence + g + " not for itself", Edges.ARGUMENT, Edges.NEW, x -> x.standIn(g, g, false));
        }
        Edges.Start chain = x -> {
            x.arrival(0, 0, 7);
            x.standIn(0, 1, true);
            x.standIn(1, 2, true);
        };
        edges.answers(sentence + "the first for the second", 7, chain, x -> x.promise(1, 0));
        edges.answers(sentence + "not by way of a third", 0, chain, x -> x.promise(2, 0));
        edges.answers(sentence + "not the second for the first", 0, x -> {
            x.arrival(0, 1, 7);
            x.standIn(0, 1, true);
        }, x -> x.promise(0, 0));
        edges.answers(sentence + "both ways", 14, x -> {
            x.arrival(0, 0, 7);
            x.arrival(0, 1, 7);
            x.standIn(0, 1, true);
            x.standIn(1, 0, true);
        }, x -> x.promise(0, 0));
    }

    /** "A KIT is a good with a recipe of 1 .. 3 parts". */
    private static void kitOfOneToThreeParts() {
        String sentence = "a recipe of 1 .. 3 parts: ";
        int[] want = {40, 20, 10};
        for (int parts = 1; parts <= 3; parts++) {
            int p = parts;
            Edges.Start start = x -> {
                for (int i = 0; i < 3; i++) {
                    x.arrival(0, i, 40 >> i);
                }
                for (int i = 0; i < p; i++) {
                    x.kit(5, i, 1);
                }
            };
            edges.answers(sentence + p, want[p - 1], start, x -> x.promise(5, 0));
            edges.answers(sentence + p + ", demands", p * 10, x -> {
                start.on(x);
                x.order(0, 5, 10, 1);
            }, x -> x.count(5));
        }
        edges.answers(sentence + "none is no kit", 0, Edges.NEW, x -> x.arrival(0, 5, 1));
        edges.refused(sentence + "a fourth", Edges.ROOM, x -> {
            x.kit(5, 0, 1);
            x.kit(5, 1, 1);
            x.kit(5, 2, 1);
        }, x -> x.kit(5, 3, 1));
    }

    /** "parts (goods that are no kits)". */
    private static void partsAreNoKits() {
        String sentence = "parts that are no kits: ";
        Edges.Start kit = x -> x.kit(5, 0, 1);
        edges.refused(sentence + "a kit as a part", Edges.STATE, kit, x -> x.kit(4, 5, 1));
        edges.refused(sentence + "a part that becomes a kit", Edges.STATE, kit, x -> x.kit(0, 1, 1));
    }

    /** "a kit itself is never taken from arrivals". */
    private static void kitIsNeverTaken() {
        String sentence = "a kit is never taken from arrivals: ";
        Edges.Start start = x -> {
            x.kit(5, 0, 1);
            x.arrival(0, 0, 7);
            x.order(0, 5, 3, 1);
        };
        edges.answers(sentence + "the part is", 0, start, x -> x.flow(0, 0, 1));
        edges.answers(sentence + "so many", 4, start, x -> x.left(0));
        edges.refused(sentence + "no arrival of it", Edges.STATE, start, x -> x.arrival(0, 5, 1));
        edges.answers(sentence + "none without parts", 0, x -> x.kit(5, 0, 1), x -> x.promise(5, 99));
    }

    /** "An ORDER (at most 10, as they come)". */
    private static void atMostTenOrders() {
        String sentence = "ORDER (at most 10, as they come): ";
        for (int i = 0; i < 10; i++) {
            int n = i;
            edges.answers(sentence + "number " + n, n, x -> {
                x.arrival(0, 0, 1000);
                for (int k = 0; k < n; k++) {
                    x.order(99 - k, 0, 1, 9 - k % 9);
                }
            }, x -> x.order(0, 0, 1, 1));
        }
        edges.answers(sentence + "ten", 10, FULL_OF_ORDERS, x -> x.count(1));
        edges.answers(sentence + "the tenth is covered", 0, FULL_OF_ORDERS, x -> x.state(9));
        edges.answers(sentence + "the tenth has its goods", 10, FULL_OF_ORDERS, x -> x.flow(9, 0, 2));
        edges.refused(sentence + "an eleventh", Edges.ROOM, FULL_OF_ORDERS, x -> x.order(0, 0, 1, 1));
        edges.refused(sentence + "an eleventh that could not be kept", Edges.ROOM, FULL_OF_ORDERS,
                x -> x.order(0, 1, 1, 1));
        edges.refused(sentence + "when one is closed", Edges.ROOM, x -> {
            FULL_OF_ORDERS.on(x);
            x.close(4);
        }, x -> x.order(0, 0, 1, 1));
        edges.refused(sentence + "when all are fallen", Edges.ROOM, x -> {
            FULL_OF_ORDERS.on(x);
            x.change(0, 0, 0);
        }, x -> x.order(0, 0, 1, 1));
        edges.answers(sentence + "those that can't be kept don't count", 0, x -> {
            x.arrival(0, 0, 1);
            for (int i = 0; i < 20; i++) {
                x.order(0, 0, 2, 1);
            }
        }, x -> x.order(0, 0, 1, 1));
    }

    /** "at most 10" orders, each with the most demands that there can be, all of which can be met from elsewhere. */
    private static void tenOrdersOfThreeParts() {
        String sentence = "ten orders of three parts: ";
        Edges.Start start = x -> {
            x.kit(5, 0, 1);
            x.kit(5, 1, 2);
            x.kit(5, 2, 3);
            x.standIn(3, 2, true);
            x.arrival(0, 0, 10);
            x.arrival(0, 1, 20);
            x.arrival(1, 2, 31);
            x.arrival(0, 3, 30);
            for (int i = 0; i < 10; i++) {
                x.order(9, 5, 1, 9 - i % 9);
            }
        };
        edges.answers(sentence + "all are covered", 10, start, x -> x.count(2));
        edges.answers(sentence + "their demands", 60, start, x -> x.count(5));
        edges.answers(sentence + "no other kit", 0, start, x -> x.promise(5, 9));
        edges.answers(sentence + "the last part of the last one", 3, start, x -> x.flow(9, 2, 0));
        edges.answers(sentence + "how many of it", 3, start, x -> x.flow(9, 2, 2));
        edges.answers(sentence + "no more parts of it", -1, start, x -> x.flow(9, 3, 0));
        edges.answers(sentence + "all can be met from elsewhere", 30, start, x -> x.promise(3, 9));
        edges.answers(sentence + "the last one bars as well", 9, start, x -> x.bars(3, 9, 9));
        edges.answers(sentence + "none falls when all can be met from elsewhere", 0, start, x -> x.aside(3, 30));
        edges.answers(sentence + "one of ten falls", 1, x -> {
            start.on(x);
            x.aside(3, 30);
        }, x -> x.aside(2, 2));
        edges.answers(sentence + "of the greatest rank the greatest number", 1, x -> {
            start.on(x);
            x.aside(0, 1);
        }, x -> x.state(9));
    }

    /** "if the good is a kit, for each part, in the order of the recipe, so many times the part's number". */
    private static void demandsOfAKit() {
        String sentence = "for each part, in the order of the recipe: ";
        Edges.Start start = x -> {
            x.kit(1, 4, 100);
            x.kit(1, 0, 1);
            x.kit(1, 3, 7);
            x.arrival(0, 0, 1000000);
            x.arrival(0, 3, 1000000);
            x.arrival(0, 4, 1000000);
            x.order(0, 1, 10000, 1);
        };
        int[][] want = {{2, 4, 1000000}, {0, 0, 10000}, {1, 3, 70000}, {-1, -1, -1}};
        for (int part = 0; part < want.length; part++) {
            for (int what = 0; what < 3; what++) {
                int i = part;
                int w = what;
                edges.answers(sentence + i + ", " + w, want[i][w], start, x -> x.flow(0, i, w));
            }
        }
        edges.answers(sentence + "all of them", 1080000, start, x -> x.count(5));
    }

    /** "else the good itself". */
    private static void demandsOfAGood() {
        String sentence = "else the good itself: ";
        Edges.Start start = x -> {
            x.arrival(0, 4, 9);
            x.order(0, 4, 9, 1);
        };
        edges.answers(sentence + "its good", 4, start, x -> x.flow(0, 0, 1));
        edges.answers(sentence + "so many", 9, start, x -> x.flow(0, 0, 2));
        edges.answers(sentence + "no other demand", -1, start, x -> x.flow(0, 1, 1));
        edges.answers(sentence + "all of them", 9, start, x -> x.count(5));
    }

    /** "A demand may be met from an arrival of its good, or of a stand-in for it, that can be used for the due time." */
    private static void metFromItsGoodOrAStandIn() {
        String sentence = "met from its good or a stand-in that can be used: ";
        Edges.Start start = x -> {
            x.arrival(4, 0, 1);
            x.arrival(5, 1, 2);
            x.arrival(5, 2, 4);
            x.standIn(1, 0, true);
        };
        edges.answers(sentence + "before the stand-in", 1, start, x -> x.promise(0, 4));
        edges.answers(sentence + "with the stand-in", 3, start, x -> x.promise(0, 5));
        edges.answers(sentence + "no more than both", -1, start, x -> x.order(99, 0, 4, 1));
        edges.answers(sentence + "as many as both", 0, start, x -> x.order(5, 0, 3, 1));
        edges.answers(sentence + "the demand's good, not the stand-in's", 0, x -> {
            start.on(x);
            x.order(5, 0, 3, 1);
        }, x -> x.flow(0, 1, 1));
    }

    /** "Orders can be KEPT together if all their demands can be met in full". */
    private static void metInFull() {
        String sentence = "met in full: ";
        Edges.Start two = x -> {
            x.kit(5, 0, 3);
            x.kit(5, 1, 2);
            x.arrival(0, 0, 30);
            x.arrival(0, 1, 20);
        };
        edges.answers(sentence + "just so many", 0, two, x -> x.order(0, 5, 10, 1));
        edges.answers(sentence + "one more", -1, two, x -> x.order(0, 5, 11, 1));
        edges.answers(sentence + "one of the first part is missing", 9, x -> {
            two.on(x);
            x.change(0, 0, 29);
        }, x -> x.promise(5, 0));
        edges.answers(sentence + "one of the second part is missing", -1, x -> {
            two.on(x);
            x.change(1, 0, 19);
        }, x -> x.order(0, 5, 10, 1));
        edges.answers(sentence + "one arrival for two parts is not enough", 4, x -> {
            x.kit(5, 0, 3);
            x.kit(5, 1, 2);
            x.arrival(0, 0, 24);
            x.standIn(0, 1, true);
        }, x -> x.promise(5, 0));
        edges.answers(sentence + "all from one arrival", 0, x -> {
            x.kit(5, 0, 3);
            x.kit(5, 1, 2);
            x.arrival(0, 0, 25);
            x.standIn(0, 1, true);
        }, x -> x.order(0, 5, 5, 1));
    }

    /** "no arrival giving more than it has less what is set aside". */
    private static void noMoreThanAnArrivalHas() {
        String sentence = "no more than it has less what is set aside: ";
        for (int aside : new int[] {0, 1, 9, 10}) {
            Edges.Start start = x -> {
                x.arrival(0, 0, 10);
                x.aside(0, aside);
            };
            edges.answers(sentence + "all but " + aside, 10 - aside, start, x -> x.promise(0, 0));
            edges.answers(sentence + "no order of more than all but " + aside, -1, start,
                    x -> x.order(0, 0, 11 - aside, 1));
            if (aside < 10) {
                edges.answers(sentence + "an order of all but " + aside, 0, start, x -> x.order(0, 0, 10 - aside, 1));
            }
        }
    }

    /** "the lesser rank first". */
    private static void lesserRankFirst() {
        String sentence = "the lesser rank first: ";
        for (int rank = 1; rank < 9; rank++) {
            int r = rank;
            Edges.Start start = x -> {
                x.arrival(0, 0, 10);
                x.order(0, 0, 5, r + 1);
                x.order(0, 0, 5, r);
                x.aside(0, 1);
            };
            edges.answers(sentence + "rank " + (r + 1) + " falls", 1, start, x -> x.state(0));
            edges.answers(sentence + "rank " + r + " stays", 0, start, x -> x.state(1));
        }
    }

    /** "of equal ones the lesser number". */
    private static void ofEqualRanksTheLesserNumber() {
        String sentence = "of equal ranks the lesser number: ";
        for (int rank : new int[] {1, 5, 9}) {
            Edges.Start start = x -> {
                x.arrival(0, 0, 15);
                x.order(0, 0, 5, rank);
                x.order(0, 0, 5, rank);
                x.order(0, 0, 5, rank);
                x.aside(0, 1);
            };
            edges.answers(sentence + "the first", 0, start, x -> x.state(0));
            edges.answers(sentence + "the second", 0, start, x -> x.state(1));
            edges.answers(sentence + "the last falls", 1, start, x -> x.state(2));
        }
    }

    /** "ORDER OF RANK", in whatever order the ranks come. */
    private static void ranksInAnyOrder() {
        int[][] comings = {{9, 8, 7, 6, 5, 4, 3, 2, 1, 9}, {1, 2, 3, 4, 5, 6, 7, 8, 9, 1}, {5, 9, 1, 5, 9, 1, 5, 9, 1, 5},
            {2, 2, 1, 1, 3, 3, 2, 1, 3, 2}, {3, 1, 2, 3, 1, 2, 9, 8, 9, 8}};
        for (int[] ranks : comings) {
            for (int kept = 0; kept <= 10; kept++) {
                int k = kept;
                Edges.Start start = x -> {
                    x.arrival(0, 0, 10);
                    for (int rank : ranks) {
                        x.order(0, 0, 1, rank);
                    }
                    x.aside(0, 10 - k);
                };
                for (int order = 0; order < 10; order++) {
                    int o = order;
                    edges.answers("order of rank, " + k + " kept: " + o, before(ranks, o) < k ? 0 : 1, start,
                            x -> x.state(o));
                }
            }
        }
    }

    private static int before(int[] ranks, int order) {
        int before = 0;
        for (int other = 0; other < ranks.length; other++) {
            if (ranks[other] < ranks[order] || ranks[other] == ranks[order] && other < order) {
                before++;
            }
        }
        return before;
    }

    /** "can be KEPT together": the others may be met from elsewhere, by one or by as many as there are. */
    private static void keptByWhatOthersLeave() {
        String sentence = "kept together, the others met from elsewhere: ";
        // Good 1 stands in for 0 and comes first; good 2 stands in for 1: an order of 2 moves 1, that moves 0.
        Edges.Start chain = x -> {
            x.standIn(1, 0, true);
            x.standIn(2, 1, true);
        };
        int[][] amounts = {
            // of goods 0, 1, 2; orders of 0 and 1; what can still be kept of good 2
            {1, 1, 1, 1, 1, 1}, {0, 1, 1, 1, 1, 0}, {1, 1, 2, 1, 1, 2}, {5, 5, 4, 1, 7, 2}, {9, 8, 1, 5, 4, 1},
            {2, 8, 9, 5, 4, 9}, {4, 5, 6, 5, 5, 5}, {5, 5, 5, 5, 5, 5}, {5, 5, 5, 6, 5, 4}, {2, 1, 2, 2, 2, 1}};
        for (int[] row : amounts) {
            Edges.Start start = x -> {
                chain.on(x);
                x.arrival(3, 0, row[0]);
                x.arrival(1, 1, row[1]);
                x.arrival(2, 2, row[2]);
                x.order(9, 0, row[3], 1);
                x.order(9, 1, row[4], 2);
            };
            String name = sentence + row[0] + ", " + row[1] + ", " + row[2] + ": ";
            edges.answers(name + "both are covered", 2, start, x -> x.count(2));
            edges.answers(name + "promise", row[5], start, x -> x.promise(2, 9));
            edges.answers(name + "one more", -1, start, x -> x.order(9, 2, row[5] + 1, 1));
            if (row[5] > 0) {
                Edges.Start ordered = x -> {
                    start.on(x);
                    x.order(9, 2, row[5], 3);
                };
                edges.answers(name + "so many", 3, ordered, x -> x.count(2));
                edges.answers(name + "its goods", row[5], ordered, x -> x.flow(2, 0, 2));
                edges.answers(name + "no more of it", 0, ordered, x -> x.promise(2, 9));
            }
        }
    }

    /** "each is covered if it can be kept with those covered so far, else it is FALLEN". */
    private static void coveredWithThoseSoFar() {
        String sentence = "covered with those covered so far, else fallen: ";
        Edges.Start start = x -> {
            x.arrival(0, 0, 16);
            x.order(0, 0, 5, 2);
            x.order(0, 0, 8, 1);
            x.order(0, 0, 3, 3);
        };
        int[][] states = {{16, 0, 0, 0}, {15, 0, 0, 1}, {13, 0, 0, 1}, {12, 1, 0, 0}, {11, 1, 0, 0}, {10, 1, 0, 1},
            {8, 1, 0, 1}, {7, 0, 1, 1}, {5, 0, 1, 1}, {4, 1, 1, 0}, {3, 1, 1, 0}, {2, 1, 1, 1}, {0, 1, 1, 1}};
        for (int[] row : states) {
            Edges.Start changed = x -> {
                start.on(x);
                x.change(0, 0, row[0]);
            };
            edges.answers(sentence + "of " + row[0] + " all", row[1] + row[2] + row[3], start,
                    x -> x.change(0, 0, row[0]));
            for (int order = 0; order < 3; order++) {
                int o = order;
                edges.answers(sentence + "of " + row[0] + ", order " + o, row[o + 1], changed, x -> x.state(o));
            }
        }
    }

    /** "Whenever something is less (arrivals, lives) or an order is closed". */
    private static void whateverIsLess() {
        String sentence = "whenever something is less: ";
        Edges.Start start = x -> {
            x.arrival(5, 1, 10);
            x.standIn(1, 0, true);
            x.order(9, 0, 10, 2);
        };
        edges.answers(sentence + "as it is", 0, start, x -> x.state(0));
        edges.answers(sentence + "an arrival brings just less", 1, start, x -> x.change(0, 5, 9));
        edges.answers(sentence + "just as much", 0, start, x -> x.change(0, 5, 10));
        edges.answers(sentence + "it comes just too late", 1, start, x -> x.change(0, 10, 10));
        edges.answers(sentence + "just in time", 0, start, x -> x.change(0, 9, 10));
        edges.answers(sentence + "one is set aside", 1, start, x -> x.aside(0, 1));
        edges.answers(sentence + "a life is just too short", 1, start, x -> x.life(1, 3));
        edges.answers(sentence + "just long enough", 0, start, x -> x.life(1, 4));
        edges.answers(sentence + "no stand-in any more", 1, start, x -> x.standIn(1, 0, false));
        Edges.Start fallen = x -> {
            start.on(x);
            x.order(9, 1, 1, 1);
            x.change(0, 5, 11);
            x.order(9, 1, 1, 1);
            x.change(0, 5, 10);
        };
        edges.answers(sentence + "one fallen", 1, fallen, x -> x.state(0));
        edges.answers(sentence + "an order is closed", 0, fallen, x -> x.close(1));
        edges.answers(sentence + "a closed one makes room for a fallen one", 0, x -> {
            fallen.on(x);
            x.close(1);
        }, x -> x.state(0));
        edges.answers(sentence + "a closed one is not gone through", 2, x -> {
            fallen.on(x);
            x.close(0);
            x.change(0, 5, 1000000);
        }, x -> x.state(0));
    }

    /** "(A new arrival, a longer life, a stand-in: likewise.)" */
    private static void whateverIsMore() {
        String sentence = "a new arrival, a longer life, a stand-in: likewise: ";
        Edges.Start fallen = x -> {
            x.arrival(5, 0, 10);
            x.order(9, 0, 10, 1);
            x.change(0, 5, 9);
            x.order(9, 0, 9, 2);
        };
        edges.answers(sentence + "fallen before", 1, fallen, x -> x.state(0));
        edges.answers(sentence + "covered before", 0, fallen, x -> x.state(1));
        Edges.Start arrived = x -> {
            fallen.on(x);
            x.arrival(9, 0, 1);
        };
        edges.answers(sentence + "a new arrival covers the first by rank", 0, arrived, x -> x.state(0));
        edges.answers(sentence + "and lets the other fall", 1, arrived, x -> x.state(1));
        edges.answers(sentence + "an arrival of nothing does not", 1, x -> {
            fallen.on(x);
            x.arrival(9, 0, 0);
        }, x -> x.state(0));
        edges.answers(sentence + "an arrival that comes too late does not", 1, x -> {
            fallen.on(x);
            x.arrival(10, 0, 1);
        }, x -> x.state(0));
        Edges.Start oneOther = x -> {
            fallen.on(x);
            x.arrival(5, 1, 1);
            x.life(1, 3);
        };
        edges.answers(sentence + "a stand-in that does not live long enough", 1, x -> {
            oneOther.on(x);
            x.standIn(1, 0, true);
        }, x -> x.state(0));
        edges.answers(sentence + "a longer life", 0, x -> {
            oneOther.on(x);
            x.standIn(1, 0, true);
            x.life(1, 4);
        }, x -> x.state(0));
        edges.answers(sentence + "a stand-in", 0, x -> {
            oneOther.on(x);
            x.life(1, 4);
            x.standIn(1, 0, true);
        }, x -> x.state(0));
        edges.answers(sentence + "both change places: one is fallen", 1, fallen, x -> x.change(0, 5, 10));
        edges.answers(sentence + "room for both", 0, fallen, x -> x.change(0, 5, 19));
        edges.answers(sentence + "room for one less than both", 1, fallen, x -> x.change(0, 5, 18));
    }

    /** "THE PLAN meets all demands of covered orders: by rank". */
    private static void planByRank() {
        String sentence = "the plan, by rank: ";
        Edges.Start start = x -> {
            x.arrival(0, 0, 10);
            x.arrival(1, 0, 10);
            x.order(9, 0, 10, 5);
            x.order(9, 0, 6, 4);
            x.order(9, 0, 4, 5);
        };
        edges.answers(sentence + "the lesser rank has the earliest", 0, start, x -> x.flow(1, 0, 0));
        edges.answers(sentence + "all of it", 6, start, x -> x.flow(1, 0, 2));
        edges.answers(sentence + "then the lesser number has the rest", 4, start, x -> x.flow(0, 0, 2));
        edges.answers(sentence + "and of the next", 6, start, x -> x.flow(0, 1, 2));
        edges.answers(sentence + "the last has what is left", 1, start, x -> x.flow(2, 0, 0));
        edges.answers(sentence + "in full", 4, start, x -> x.flow(2, 0, 2));
    }

    /** "each order's demands in their order". */
    private static void planByDemands() {
        String sentence = "each order's demands in their order: ";
        Edges.Start start = x -> {
            x.kit(5, 1, 1);
            x.kit(5, 0, 1);
            x.arrival(0, 2, 5);
            x.arrival(1, 2, 5);
            x.standIn(2, 0, true);
            x.standIn(2, 1, true);
            x.order(9, 5, 4, 1);
        };
        int[][] want = {{0, 1, 4}, {0, 0, 1}, {1, 0, 3}, {-1, -1, -1}};
        for (int part = 0; part < want.length; part++) {
            for (int what = 0; what < 3; what++) {
                int i = part;
                int w = what;
                edges.answers(sentence + i + ", " + w, want[i][w], start, x -> x.flow(0, i, w));
            }
        }
    }

    /** "from the arrivals by time (of equal ones by number)". */
    private static void planByTimeThenNumber() {
        String sentence = "from the arrivals by time, of equal ones by number: ";
        Edges.Start start = x -> {
            x.arrival(7, 0, 1);
            x.arrival(3, 0, 2);
            x.arrival(7, 0, 4);
            x.arrival(3, 0, 8);
            x.arrival(0, 0, 16);
            x.order(9, 0, 31, 1);
        };
        int[] want = {4, 1, 3, 0, 2, -1};
        for (int part = 0; part < want.length; part++) {
            int i = part;
            edges.answers(sentence + i, want[i], start, x -> x.flow(0, i, 0));
        }
        edges.answers(sentence + "a changed time", 4, x -> {
            start.on(x);
            x.change(2, 2, 4);
        }, x -> x.flow(0, 1, 2));
    }

    /** "as much of each as is possible so that all demands are still met". */
    private static void planLeavesWhatOthersNeed() {
        String sentence = "as much as is possible so that all demands are still met: ";
        for (int needed : new int[] {1, 4, 5, 9, 10}) {
            Edges.Start start = x -> {
                x.arrival(0, 0, 10);
                x.arrival(5, 0, 10);
                x.order(9, 0, 6, 1);
                x.order(4, 0, needed, 2);
            };
            int first = Math.min(6, 10 - needed);
            edges.answers(sentence + "the later one has " + needed, needed, start, x -> x.flow(1, 0, 2));
            edges.answers(sentence + "the first part when " + needed + " are needed", first == 0 ? 6 : first, start,
                    x -> x.flow(0, 0, 2));
            edges.answers(sentence + "its arrival when " + needed + " are needed", first == 0 ? 1 : 0, start,
                    x -> x.flow(0, 0, 0));
            edges.answers(sentence + "the second part when " + needed + " are needed",
                    first == 0 || first == 6 ? -1 : 6 - first, start, x -> x.flow(0, 1, 2));
        }
    }

    /** "with what was planned before". */
    private static void planKeepsWhatWasPlannedBefore() {
        String sentence = "with what was planned before: ";
        Edges.Start start = x -> {
            x.arrival(0, 0, 10);
            x.arrival(5, 0, 10);
            x.order(9, 0, 8, 2);
            x.order(9, 0, 7, 1);
        };
        edges.answers(sentence + "the first keeps the earliest", 7, start, x -> x.flow(1, 0, 2));
        edges.answers(sentence + "the second has the rest of it", 3, start, x -> x.flow(0, 0, 2));
        edges.answers(sentence + "and of the next one", 5, start, x -> x.flow(0, 1, 2));
        edges.answers(sentence + "when the first is closed", 8, x -> {
            start.on(x);
            x.close(1);
        }, x -> x.flow(0, 0, 2));
    }

    /** "THE PLAN" is that of the orders and arrivals as they are, whatever call came last. */
    private static void planAfterEveryCall() {
        String sentence = "the plan after ";
        Edges.Start start = x -> {
            x.arrival(0, 0, 10);
            x.arrival(5, 0, 10);
            x.order(9, 0, 6, 1);
            x.order(9, 0, 8, 2);
        };
        Edges.Start[] calls = {
            x -> x.arrival(0, 1, 1),
            x -> x.change(1, 5, 11),
            x -> x.aside(1, 1),
            x -> x.life(3, 0),
            x -> x.standIn(3, 4, true),
            x -> x.kit(4, 3, 1),
            x -> x.order(9, 0, 1, 3),
            x -> x.order(0, 3, 1, 1),
            x -> x.promise(0, 0)};
        int[][] want = {{0, 0, 6}, {0, 1, -1}, {1, 0, 4}, {1, 1, 4}};
        for (int call = 0; call < calls.length; call++) {
            int c = call;
            for (int[] row : want) {
                edges.answers(sentence + "call " + c + ": part " + row[1] + " of " + row[0], row[2], x -> {
                    start.on(x);
                    calls[c].on(x);
                }, x -> x.flow(row[0], row[1], 2));
            }
        }
        edges.answers(sentence + "a close: the next by rank", 8, x -> {
            start.on(x);
            x.order(9, 0, 6, 3);
            x.close(0);
        }, x -> x.flow(1, 0, 2));
        edges.answers(sentence + "a close: the last by rank", 2, x -> {
            start.on(x);
            x.order(9, 0, 6, 3);
            x.close(0);
        }, x -> x.flow(2, 0, 2));
    }
}
