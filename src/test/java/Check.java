/** What the tests share: comparing answers, and the exit code. */
final class Check {
    private static int wrong = 0;

    private Check() {
    }

    static void equal(String call, long got, long due) {
        if (got != due) {
            report(call + " answered " + got + ", due is " + due);
        }
    }

    static void equal(String call, boolean got, boolean due) {
        if (got != due) {
            report(call + " answered " + got + ", due is " + due);
        }
    }

    static void same(String call, String got, String due) {
        if (!got.equals(due)) {
            report(call + " answered " + got + ", due is " + due);
        }
    }

    static void report(String text) {
        wrong++;
        System.out.println(text);
    }

    /** To be called last by each test's main. */
    static void end() {
        if (wrong > 0) {
            System.out.println(wrong + " answers are wrong");
            System.exit(1);
        }
    }
}
