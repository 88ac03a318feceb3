import java.util.function.LongSupplier;

/** What the tests share: comparing answers and exceptions, and the exit code. */
final class Check {
    private static int wrong = 0;

    private Check() {
    }

    static void equal(String call, long got, long due) {
        if (got != due) {
            report(call + " answered " + got + ", due is " + due);
        }
    }

    static void equal(String call, boolean got, boolean due) {
        if (got != due) {
            report(call + " answered " + got + ", due is " + due);
        }
    }

    static void same(String call, String got, String due) {
        if (!got.equals(due)) {
            report(call + ":\n  got " + got + "\n  due " + due);
        }
    }

    /** The call throws just this class (what the machine throws is often a class below it) and changes nothing. */
    static void fails(ResidueFlows x, String call, Class<? extends RuntimeException> due, Runnable run) {
        String before = stateOf(x);
        same(call, answerOf(() -> {
            run.run();
            return 0;
        }), "throws." + due.getSimpleName());
        same(call + ", which throws, changes", stateOf(x), before);
    }

    static void outOfBounds(ResidueFlows x, String call, Runnable run) {
        fails(x, call, IndexOutOfBoundsException.class, run);
    }

    static void badArgument(ResidueFlows x, String call, Runnable run) {
        fails(x, call, IllegalArgumentException.class, run);
    }

    static void badState(ResidueFlows x, String call, Runnable run) {
        fails(x, call, IllegalStateException.class, run);
    }

    static String answerOf(LongSupplier call) {
        try {
            return Long.toString(call.getAsLong());
        } catch (RuntimeException e) {
            return "throws." + e.getClass().getSimpleName();
        }
    }

    /** All that can be asked of an object without changing it. */
    static String stateOf(ResidueFlows x) {
        StringBuilder state = new StringBuilder();
        for (int all = 0; all < 2; all++) {
            boolean ofAll = all == 1;
            for (int kind = 0; kind < 4; kind++) {
                int of = kind;
                state.append(answerOf(() -> x.volume(of, ofAll))).append(' ');
            }
            state.append(answerOf(() -> x.boards(ofAll))).append(' ');
        }
        for (int bin = 0; bin < 8; bin++) {
            state.append("| ");
            for (int what = 0; what < 6; what++) {
                int of = bin;
                int asked = what;
                state.append(answerOf(() -> x.about(of, asked))).append(' ');
            }
        }
        state.append("| ");
        for (int what = 0; what < 4; what++) {
            state.append(x.shift(what)).append(' ');
        }
        return state.append(x.carbon()).toString();
    }

    static void report(String text) {
        wrong++;
        System.out.println(text);
    }

    /** To be called last by each test's main. */
    static void end() {
        if (wrong > 0) {
            System.out.println(wrong + " answers are wrong");
            System.exit(1);
        }
    }
}
