/** Compares what calls answer, or which exception they throw, with what is due. */
final class Due {
    interface Call {
        int run();
    }

    private final String test;
    private int calls = 0;
    private int wrong = 0;

    Due(String test) {
        this.test = test;
    }

    /** The answer as a text: a number, or throws. and the exception's name. */
    static String outcome(Call call) {
        try {
            return Integer.toString(call.run());
        } catch (RuntimeException thrown) {
            return "throws." + thrown.getClass().getSimpleName();
        }
    }

    void answers(String what, int want, Call call) {
        same(what, Integer.toString(want), outcome(call));
    }

    void refuses(String what, Class<? extends RuntimeException> want, Call call) {
        same(what, "throws." + want.getSimpleName(), outcome(call));
    }

    void same(String what, String want, String got) {
        calls++;
        if (!want.equals(got)) {
            wrong++;
            System.out.println(what + " answered " + got + ", due is " + want);
        }
    }

    boolean allRight() {
        return wrong == 0;
    }

    void end() {
        System.out.println(test + ": " + calls + " checked, " + wrong + " wrong");
        if (wrong != 0 || calls == 0) {
            System.exit(1);
        }
    }
}
