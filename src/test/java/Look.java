/** All that can be seen of an object, as a text. It is of no use afterwards: the look adds to it. */
final class Look {
    private static final int GOODS = 6;
    private static final int[] TIMES = {0, 3, 5, 9, 20, 50, 99};
    private static final int MOST_CALLS = 400;

    private final PromiseFlows x;
    private final StringBuilder seen = new StringBuilder();
    private int calls = 0;

    private Look(PromiseFlows x) {
        this.x = x;
    }

    static String at(PromiseFlows x) {
        Look look = new Look(x);
        look.counts();
        look.arrivals();
        look.orders();
        look.goods();
        look.whatComesNext();
        if (look.calls > MOST_CALLS) {
            throw new IllegalStateException("a look takes too many of the 512 calls: " + look.calls);
        }
        return look.seen.toString();
    }

    private String ask(String call, Due.Call asked) {
        calls++;
        String answer = Due.outcome(asked);
        seen.append(call).append('=').append(answer).append(' ');
        return answer;
    }

    private static boolean ends(String answer) {
        return answer.equals("-1") || answer.startsWith("throws");
    }

    private void counts() {
        for (int what = 0; what < 6; what++) {
            int w = what;
            ask("count(" + w + ")", () -> x.count(w));
        }
    }

    private void arrivals() {
        int number = x.count(0);
        for (int arrival = 0; arrival < number; arrival++) {
            int a = arrival;
            ask("left(" + a + ")", () -> x.left(a));
        }
    }

    private void orders() {
        int number = x.count(1);
        for (int order = 0; order < number; order++) {
            int o = order;
            ask("state(" + o + ")", () -> x.state(o));
            for (int part = 0; part < 30; part++) {
                int i = part;
                if (ends(ask("flow(" + o + "," + i + ",0)", () -> x.flow(o, i, 0)))) {
                    break;
                }
                ask("flow(" + o + "," + i + ",1)", () -> x.flow(o, i, 1));
                ask("flow(" + o + "," + i + ",2)", () -> x.flow(o, i, 2));
            }
        }
    }

    private void goods() {
        for (int good = 0; good < GOODS; good++) {
            int g = good;
            promises(g);
            ask("share(" + g + ",99)", () -> x.share(g, 99));
            for (int bar = 0; bar <= 10; bar++) {
                int i = bar;
                if (ends(ask("bars(" + g + ",99," + i + ")", () -> x.bars(g, 99, i)))) {
                    break;
                }
            }
        }
    }

    private void promises(int good) {
        for (int time : TIMES) {
            ask("promise(" + good + "," + time + ")", () -> x.promise(good, time));
        }
    }

    /** Arrivals and stand-ins show what lives, recipes and stand-ins there are of goods that had no arrival. */
    private void whatComesNext() {
        for (int good = 0; good < GOODS; good++) {
            int g = good;
            ask("arrival(0," + g + ",1000)", () -> x.arrival(0, g, 1000));
        }
        ask("order(0,0,1,1)", () -> x.order(0, 0, 1, 1));
        for (int good = 0; good < GOODS; good++) {
            promises(good);
        }
        for (int other = 0; other < GOODS; other++) {
            for (int good = 0; good < GOODS; good++) {
                int o = other;
                int g = good;
                ask("standIn(" + o + "," + g + ",true)", () -> x.standIn(o, g, true));
            }
        }
    }
}
