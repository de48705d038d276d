import java.util.ArrayList;
import java.util.List;

/** Long runs of calls, the same ones every time, on the class and on the plain model. */
public final class PlainModelTest {
    /** The document says nothing of what an object answers behind these. */
    private static final int CALLS = 512;

    private final Due due;
    private long seed;
    private final int mostArrivals;
    private final int mostBrought;
    private final int times;
    private final PromiseFlows program = new PromiseFlows();
    private final PlainModel model = new PlainModel();
    private final List<String> calls = new ArrayList<>();

    private PlainModelTest(Due due, long seed, int mostArrivals, int mostBrought, int times) {
        this.due = due;
        this.seed = seed * 0x9E3779B97F4A7C15L + 1;
        this.mostArrivals = mostArrivals;
        this.mostBrought = mostBrought;
        this.times = times;
    }

    public static void main(String[] args) {
        Due due = new Due("PlainModelTest");
        for (int run = 0; run < 4000 && due.allRight(); run++) {
            new PlainModelTest(due, run, 2 + run % 5, run % 3 == 0 ? 1000000 : 10 + run % 300, 1 + run % 12).run();
        }
        for (int run = 10000; run < 10300 && due.allRight(); run++) {
            new PlainModelTest(due, run, 10, 40, 3).run();
        }
        due.end();
    }

    private void run() {
        int changes = 10 + next(180);
        for (int i = 0; i < changes && due.allRight(); i++) {
            call(i < 20 ? next(10) : next(100));
            if (next(3) == 0) {
                lookAtOne(next(6));
            }
        }
        lookAtAll();
        if (!due.allRight()) {
            calls.forEach(System.out::println);
        }
    }

    private int next(int bound) {
        seed = seed * 6364136223846793005L + 1442695040888963407L;
        return (int) ((seed >>> 33) % bound);
    }

    private int good() {
        return next(60) == 0 ? 6 - 7 * next(2) : next(6);
    }

    private int time() {
        return next(60) == 0 ? 100 - 101 * next(2) : next(times);
    }

    private int amount(int most) {
        return next(3) == 0 ? next(most + 2) : next(Math.max(2, most / 4));
    }

    private void same(String call, Due.Call byModel, Due.Call byProgram) {
        if (calls.size() >= CALLS || !due.allRight()) {
            return;
        }
        String want = Due.outcome(byModel);
        calls.add(call + " = " + want);
        due.same(call, want, Due.outcome(byProgram));
    }

    private void call(int which) {
        if (which < 5) {
            callArrival();
        } else if (which < 8) {
            callStandIn();
        } else if (which < 10) {
            callKit();
        } else if (which < 40) {
            callOrder();
        } else if (which < 60) {
            callChange();
        } else if (which < 70) {
            callAside();
        } else if (which < 80) {
            callLife();
        } else if (which < 88) {
            callClose();
        } else {
            callStandIn();
        }
    }

    private void callArrival() {
        int time = time();
        int good = good();
        int n = amount(mostBrought);
        if (model.count(0) < mostArrivals || mostArrivals == 10) {
            same("arrival(" + time + ", " + good + ", " + n + ")",
                    () -> model.arrival(time, good, n), () -> program.arrival(time, good, n));
        }
    }

    private void callStandIn() {
        int other = good();
        int good = good();
        boolean may = next(2) == 0;
        same("standIn(" + other + ", " + good + ", " + may + ")",
                () -> model.standIn(other, good, may), () -> program.standIn(other, good, may));
    }

    private void callKit() {
        int good = 5 - next(2);
        int part = good();
        int n = next(10) == 0 ? next(103) : 1 + next(3);
        same("kit(" + good + ", " + part + ", " + n + ")",
                () -> model.kit(good, part, n), () -> program.kit(good, part, n));
    }

    private void callOrder() {
        int time = time();
        int good = good();
        int most = Due.outcome(() -> model.promise(good, time)).startsWith("throws") ? 1 : model.promise(good, time);
        int n = next(8) == 0 ? most + next(2) : 1 + next(Math.max(1, most / 3));
        int rank = next(40) == 0 ? 10 * next(2) : 1 + next(9);
        // An object takes ten orders in all: later ones are worth more in a run that has changed much.
        if (model.count(1) < 4 || next(4) == 0) {
            same("order(" + time + ", " + good + ", " + n + ", " + rank + ")",
                    () -> model.order(time, good, n, rank), () -> program.order(time, good, n, rank));
        }
    }

    private void callChange() {
        int arrival = next(mostArrivals + 1) - next(40) / 39;
        int time = time();
        int n = amount(mostBrought);
        same("change(" + arrival + ", " + time + ", " + n + ")",
                () -> model.change(arrival, time, n), () -> program.change(arrival, time, n));
    }

    private void callAside() {
        int arrival = next(mostArrivals + 1);
        int n = next(2) == 0 ? 0 : amount(mostBrought) - 1;
        same("aside(" + arrival + ", " + n + ")", () -> model.aside(arrival, n), () -> program.aside(arrival, n));
    }

    private void callLife() {
        int good = good();
        int length = next(3) == 0 ? 100 + next(2) : next(times + 1) - next(20) / 19;
        same("life(" + good + ", " + length + ")", () -> model.life(good, length), () -> program.life(good, length));
    }

    private void callClose() {
        int order = next(11) - next(20) / 19;
        if (next(4) == 0) {
            same("close(" + order + ")", () -> model.close(order), () -> program.close(order));
        }
    }

    private void lookAtOne(int which) {
        int good = good();
        int time = time();
        int order = next(11);
        int i = next(5);
        int what = next(6);
        if (which == 0) {
            same("promise(" + good + ", " + time + ")",
                    () -> model.promise(good, time), () -> program.promise(good, time));
        } else if (which == 1) {
            same("bars(" + good + ", " + time + ", " + i + ")",
                    () -> model.bars(good, time, i), () -> program.bars(good, time, i));
        } else if (which == 2) {
            same("flow(" + order + ", " + i + ", " + what + ")",
                    () -> model.flow(order, i, what), () -> program.flow(order, i, what));
        } else if (which == 3) {
            same("left(" + order + ")", () -> model.left(order), () -> program.left(order));
        } else if (which == 4) {
            same("state(" + order + ")", () -> model.state(order), () -> program.state(order));
        } else {
            same("count(" + what + ")", () -> model.count(what), () -> program.count(what));
        }
    }

    private void lookAtAll() {
        for (int what = -1; what <= 6; what++) {
            int w = what;
            same("count(" + w + ")", () -> model.count(w), () -> program.count(w));
        }
        for (int arrival = -1; arrival <= model.count(0); arrival++) {
            int a = arrival;
            same("left(" + a + ")", () -> model.left(a), () -> program.left(a));
        }
        for (int order = -1; order <= model.count(1); order++) {
            lookAtOrder(order);
        }
        for (int good = 0; good < 6; good++) {
            lookAtGood(good, time());
        }
    }

    private void lookAtOrder(int order) {
        same("state(" + order + ")", () -> model.state(order), () -> program.state(order));
        for (int part = -1; part < 30; part++) {
            int i = part;
            for (int what = -1; what <= 3; what++) {
                int w = what;
                same("flow(" + order + ", " + i + ", " + w + ")",
                        () -> model.flow(order, i, w), () -> program.flow(order, i, w));
            }
            String arrival = Due.outcome(() -> model.flow(order, Math.max(0, i), 0));
            if (arrival.equals("-1") || arrival.startsWith("throws")) {
                return;
            }
        }
    }

    private void lookAtGood(int good, int time) {
        same("promise(" + good + ", " + time + ")", () -> model.promise(good, time), () -> program.promise(good, time));
        same("share(" + good + ", " + time + ")", () -> model.share(good, time), () -> program.share(good, time));
        for (int bar = -1; bar <= model.count(2); bar++) {
            int i = bar;
            same("bars(" + good + ", " + time + ", " + i + ")",
                    () -> model.bars(good, time, i), () -> program.bars(good, time, i));
        }
    }
}
