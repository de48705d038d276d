import java.util.NoSuchElementException;

/** Checks of one edge each, every one on new objects, so that none leans on what another one left. */
final class Edges {
    /** The calls that an object has behind it when the edge is tried. */
    interface Start {
        void on(PromiseFlows x);
    }

    interface Use {
        int on(PromiseFlows x);
    }

    /** A call with the number whose range is tried, all else in it being right. */
    interface UseOf {
        int on(PromiseFlows x, int number);
    }

    static final Class<IllegalArgumentException> ARGUMENT = IllegalArgumentException.class;
    static final Class<IllegalStateException> STATE = IllegalStateException.class;
    static final Class<NoSuchElementException> NONE = NoSuchElementException.class;
    static final Class<UnsupportedOperationException> ROOM = UnsupportedOperationException.class;
    static final Class<ArithmeticException> ZERO = ArithmeticException.class;
    static final Start NEW = x -> { };

    /** Some of everything: a kit, a stand-in, a short life, goods set aside, orders 0 and 2 covered, 1 closed, 3 fallen. */
    static final Start STOCKED = x -> {
        x.kit(5, 0, 2);
        x.kit(5, 1, 1);
        x.arrival(3, 0, 10);
        x.arrival(5, 1, 8);
        x.arrival(0, 2, 6);
        x.aside(0, 4);
        x.standIn(2, 1, true);
        x.life(2, 50);
        x.order(9, 5, 2, 4);
        x.order(9, 2, 3, 1);
        x.order(20, 1, 5, 4);
        x.order(9, 0, 2, 9);
        x.close(1);
        x.aside(0, 5);
    };

    private final Due due;

    Edges(String test) {
        due = new Due(test);
    }

    void end() {
        due.end();
    }

    static PromiseFlows made(Start start) {
        PromiseFlows x = new PromiseFlows();
        start.on(x);
        return x;
    }

    void same(String sentence, String want, String got) {
        due.same(sentence, want, got);
    }

    void answers(String sentence, int want, Start start, Use call) {
        PromiseFlows x = made(start);
        due.answers(sentence, want, () -> call.on(x));
    }

    /** "What is refused changes nothing" is a part of every refusal. */
    void refused(String sentence, Class<? extends RuntimeException> want, Start start, Use call) {
        PromiseFlows x = made(start);
        due.refuses(sentence, want, () -> call.on(x));
        due.same(sentence + " (what is refused changes nothing)", Look.at(made(start)), Look.at(x));
    }

    /** Both ends are taken; what is outside, near or far, is not. */
    void range(String sentence, int least, int most, Start start, UseOf call) {
        taken(sentence, least, start, call);
        taken(sentence, most, start, call);
        outside(sentence, ARGUMENT, least, most, start, call);
    }

    void fromZeroOn(String sentence, Start start, UseOf call) {
        taken(sentence, 0, start, call);
        taken(sentence, Integer.MAX_VALUE, start, call);
        refused(sentence + ": -1", ARGUMENT, start, x -> call.on(x, -1));
        refused(sentence + ": the least", ARGUMENT, start, x -> call.on(x, Integer.MIN_VALUE));
    }

    /** The numbers of arrivals or orders, as there are so many. */
    void numbers(String sentence, int many, Start start, UseOf call) {
        if (many > 0) {
            taken(sentence, 0, start, call);
            taken(sentence, many - 1, start, call);
        }
        outside(sentence, NONE, 0, many - 1, start, call);
    }

    private void taken(String sentence, int number, Start start, UseOf call) {
        PromiseFlows x = made(start);
        String got = Due.outcome(() -> call.on(x, number));
        due.same(sentence + ": " + number + " is taken", "true", "" + !got.startsWith("throws"));
    }

    private void outside(String sentence, Class<? extends RuntimeException> want, int least, int most,
            Start start, UseOf call) {
        for (int number : new int[] {least - 1, most + 1, Integer.MIN_VALUE, Integer.MAX_VALUE}) {
            refused(sentence + ": " + number, want, start, x -> call.on(x, number));
        }
    }
}
