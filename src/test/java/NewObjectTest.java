/** Promise 1: a new object; and what holds to the last of its 512 calls. */
public final class NewObjectTest {
    public static void main(String[] args) {
        nothingIsTold();
        nothingIsShared();
        theLastCalls();
        Check.end();
    }

    private static void nothingIsTold() {
        Runs.run("a new object: no LOG was told", """
                volume 0 false = STATE
                volume 1 false = STATE
                volume 2 false = STATE
                volume 3 false = STATE
                volume 0 true = STATE
                volume 1 true = STATE
                volume 2 true = STATE
                volume 3 true = STATE
                boards false = STATE
                boards true = STATE
                log 1 0 0 = 0
                """);
        Runs.run("a new object: there are no bins", """
                about 0 0 = INDEX
                about 7 5 = INDEX
                pour 0 0 0 = INDEX
                scale 0 0 = INDEX
                burn 0 1 0 = INDEX
                sell 0 1 0 = INDEX
                span 0 0 0 = INDEX
                mix 0 1 1 = INDEX
                screen 0 0 1 2 20 20 = INDEX
                carbon = 0
                bin 0 1 = 0
                """);
        Runs.run("a new object: there are no screens", """
                send 0 0 0 = STATE
                send 1 0 0 = STATE
                send 2 0 0 = STATE
                send 3 0 0 = STATE
                """);
        Runs.run("a new object: there are no ROWS", """
                bin 0 2 = 0
                pour 0 2 0 = true
                burn 0 1 0 = 19000
                burn 0 1 364 = 19000
                row 0 0 = 1
                """);
        Runs.run("a new object: the BARK share is 1 / 10, that of OFFCUTS 1 / 4", """
                log 40 0 0 = 0
                volume 0 false = 4*63504000
                volume 1 false = 27*63504000
                volume 2 false = 0
                volume 3 false = 9*63504000
                """);
        Runs.run("a new object: nothing came in or went out", """
                shift 0 = 0
                shift 1 = 0
                shift 2 = 0
                shift 3 = 0
                carbon = 0
                """);
    }

    /** A second object is new, whatever the first one was told. */
    private static void nothingIsShared() {
        Mill used = new Mill();
        String[] calls = {"share 0 1 2", "share 1 1 2", "log 10 1 1", "bin 0 100", "bin 0 100", "bin 0 100",
            "screen 0 0 1 2 20 20", "span 0 5 6", "row 0 0", "pour 0 50 500", "burn 0 1 0", "scale 0 7", "begin"};
        for (String call : calls) {
            used.call(call);
        }
        nothingIsTold();
    }

    /** Some rows many times, and then one more: 512 calls in all. */
    private static String upToTheLast(String first, String again, String last) {
        int spare = Mill.MOST_CALLS - 1 - first.split("\n").length;
        return first + "\n" + again.repeat(spare / again.split("\n").length) + last;
    }

    private static void theLastCalls() {
        StringBuilder logs = new StringBuilder();
        for (int i = 0; i < 511; i++) {
            logs.append("log 1000 1000000 1000000 = ").append(i).append('\n');
        }
        String title = "an object is used for at most 512 calls: ";
        Runs.run(title + "511 logs of all bark", logs + "volume 0 true = 511*100*63504000");
        Runs.run(title + "511 logs of all chips", logs + "volume 1 true = 511*201000*25200");
        Runs.run(title + "511 logs of all dust", logs + "volume 2 true = 511*1000000*25200");
        Runs.run(title + "511 logs of all offcuts", logs + "volume 3 true = 511*67000*25200");
        Runs.run(title + "511 logs of all boards", logs + "boards true = 511*1000000*25200");
        Runs.run(title + "511 shifts", "begin\n".repeat(511) + "shift 3 = 511");
        String inAndOut = "pour 0 1000000 1 = true\nsell 0 1000000 1000000 = 999000000\n";
        Runs.run(title + "the most that can come in", upToTheLast("bin 0 1000000 = 0", inAndOut, "shift 1 = 255*1000000000"));
        Runs.run(title + "the most that can go out", upToTheLast("bin 0 1000000 = 0", inAndOut, "shift 2 = 255*1000000000"));
    }
}
