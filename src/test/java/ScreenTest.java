/** Promises 9 and 10: screen, send. */
public final class ScreenTest {
    /** Bins 0, 1, 2 and 4 are of one KIND, bin 3 is of another. */
    private static final String BINS = """
            bin 1 1000000 = 0
            bin 1 1000000 = 1
            bin 1 1000000 = 2
            bin 2 1000000 = 3
            bin 1 1000000 = 4
            """;

    public static void main(String[] args) {
        ordinarySends();
        edgesOfScreen();
        edgesOfShares();
        edgesOfSend();
        whatIsCutOff();
        fullOuts();
        Check.end();
    }

    private static void ordinarySends() {
        Runs.run("send: by shares a_k / 60, in the order of OUTS, each with its WATER", BINS + """
                screen 3 2 0 1 10 20
                send 3 60 250 = true
                about 2 0 = 7500
                about 2 1 = 2500
                about 0 0 = 15000
                about 0 1 = 5000
                about 1 0 = 22500
                about 1 1 = 7500
                shift 1 = 60000
                """);
        Runs.run("screen: each of the four has its own bins and shares, and a bin may be of several", BINS + """
                screen 0 0 1 2 60 0
                screen 1 0 1 2 0 60
                screen 2 0 1 2 0 0
                screen 3 4 1 2 60 0
                send 0 1 0 = true
                send 1 2 0 = true
                send 2 3 0 = true
                send 3 4 0 = true
                about 0 5 = 1000
                about 1 5 = 2000
                about 2 5 = 3000
                about 4 5 = 4000
                """);
        Runs.run("screen: told again, the latest one holds", BINS + """
                screen 0 0 1 2 60 0
                screen 0 2 0 4 30 15
                send 0 4 0 = true
                about 0 5 = 1000
                about 1 5 = 0
                about 2 5 = 2000
                about 4 5 = 1000
                """);
    }

    private static void edgesOfScreen() {
        Runs.run("screen: a SCREEN is 0 .. 3", BINS + """
                screen -1 0 1 2 20 20 = INDEX
                screen 0 0 1 2 20 20
                screen 3 0 1 2 20 20
                screen 4 0 1 2 20 20 = INDEX
                screen 2147483647 0 1 2 20 20 = INDEX
                screen -2147483648 0 1 2 20 20 = INDEX
                send 0 3 0 = true
                send 1 3 0 = STATE
                send 3 3 0 = true
                about 2 5 = 2000
                """);
        Runs.run("screen: there is no such bin", BINS + """
                screen 0 -1 1 2 20 20 = INDEX
                screen 0 0 -1 2 20 20 = INDEX
                screen 0 0 1 -1 20 20 = INDEX
                screen 0 5 1 2 20 20 = INDEX
                screen 0 0 5 2 20 20 = INDEX
                screen 0 0 1 5 20 20 = INDEX
                screen 0 8 1 2 20 20 = INDEX
                screen 0 0 8 2 20 20 = INDEX
                screen 0 0 1 8 20 20 = INDEX
                screen 0 2147483647 1 2 20 20 = INDEX
                screen 0 0 -2147483648 2 20 20 = INDEX
                screen 0 4 1 2 20 20
                """);
        Runs.run("screen: two bins are one", BINS + """
                screen 0 1 1 2 20 20 = ARGUMENT
                screen 0 1 2 1 20 20 = ARGUMENT
                screen 0 2 1 1 20 20 = ARGUMENT
                screen 0 1 1 1 20 20 = ARGUMENT
                screen 0 1 1 2 0 0 = ARGUMENT
                screen 0 0 1 2 20 20
                """);
        Runs.run("screen: bins have unlike KINDS", BINS + """
                screen 0 3 1 2 20 20 = ARGUMENT
                screen 0 0 3 2 20 20 = ARGUMENT
                screen 0 0 1 3 20 20 = ARGUMENT
                screen 0 0 1 3 30 30 = ARGUMENT
                bin 2 1000000 = 5
                screen 0 3 5 0 20 20 = ARGUMENT
                bin 2 1000000 = 6
                screen 0 3 5 6 20 20
                """);
        Runs.run("screen: IndexOutOfBoundsException is named before IllegalArgumentException", BINS + """
                screen 4 0 0 2 20 20 = INDEX
                screen -1 0 1 2 -1 20 = INDEX
                screen 0 5 5 2 20 20 = INDEX
                screen 0 0 3 5 20 20 = INDEX
                screen 0 0 5 2 20 41 = INDEX
                screen 0 0 0 8 -1 -1 = INDEX
                """);
        Runs.run("screen: one that throws leaves the one told before", BINS + """
                screen 0 0 1 2 0 60
                screen 0 0 1 3 60 0 = ARGUMENT
                screen 0 4 4 2 60 0 = ARGUMENT
                screen 0 4 2 1 61 0 = ARGUMENT
                screen 0 4 2 5 60 0 = INDEX
                send 0 2 0 = true
                about 1 5 = 2000
                """);
    }

    private static void edgesOfShares() {
        Runs.run("screen: no share is below 0", BINS + """
                screen 0 0 1 2 -1 20 = ARGUMENT
                screen 0 0 1 2 20 -1 = ARGUMENT
                screen 0 0 1 2 -1 61 = ARGUMENT
                screen 0 0 1 2 61 -1 = ARGUMENT
                screen 0 0 1 2 61 0 = ARGUMENT
                screen 0 0 1 2 0 61 = ARGUMENT
                screen 0 0 1 2 30 31 = ARGUMENT
                screen 0 0 1 2 31 30 = ARGUMENT
                screen 0 0 1 2 30 30
                send 0 60 0 = true
                about 0 5 = 30000
                about 1 5 = 30000
                about 2 5 = 0
                """);
        Runs.run("screen: a share of 0, and one of all 60", BINS + """
                screen 0 0 1 2 0 0
                send 0 59 0 = true
                about 2 5 = 59000
                screen 0 0 1 2 60 0
                send 0 58 0 = true
                about 0 5 = 58000
                screen 0 0 1 2 0 60
                send 0 57 0 = true
                about 0 5 = 58000
                about 1 5 = 57000
                about 2 5 = 59000
                """);
        Runs.run("screen: shares that wrap around leave a third below 0", BINS + """
                screen 0 0 1 2 2147483647 2147483647 = ARGUMENT
                screen 0 0 1 2 2147483647 1 = ARGUMENT
                screen 0 0 1 2 1 2147483647 = ARGUMENT
                screen 0 0 1 2 2147483647 2 = ARGUMENT
                screen 0 0 1 2 -2147483648 -2147483648 = ARGUMENT
                screen 0 0 1 2 -2147483648 2147483647 = ARGUMENT
                """);
    }

    private static void edgesOfSend() {
        String told = BINS + "screen 0 0 1 2 20 20\n";
        Runs.run("send: a SCREEN is 0 .. 3", told + """
                screen 3 0 1 2 20 20
                send -1 3 0 = INDEX
                send 0 3 0 = true
                send 3 3 0 = true
                send 4 3 0 = INDEX
                send 2147483647 3 0 = INDEX
                send -2147483648 3 0 = INDEX
                """);
        Runs.run("send: kilograms are 0 .. 1000000", told + """
                send 0 -1 0 = ARGUMENT
                send 0 0 0 = true
                shift 1 = 0
                send 0 1000000 0 = true
                about 0 5 = 333334000
                about 1 5 = 333333000
                about 2 5 = 333333000
                shift 1 = 1000000000
                send 0 1000001 0 = ARGUMENT
                send 0 2147483647 0 = ARGUMENT
                send 0 -2147483648 0 = ARGUMENT
                """);
        Runs.run("send: water is 0 .. 1000", told + """
                send 0 3 -1 = ARGUMENT
                send 0 3 0 = true
                about 0 0 = 1000
                send 0 3 1000 = true
                about 0 0 = 1000
                about 0 1 = 1000
                about 2 1 = 1000
                send 0 3 1001 = ARGUMENT
                send 0 3 2147483647 = ARGUMENT
                send 0 3 -2147483648 = ARGUMENT
                send 0 0 1001 = ARGUMENT
                """);
        Runs.run("send: the screen was not told", told + """
                send 1 3 0 = STATE
                send 1 0 0 = STATE
                screen 1 0 1 3 20 20 = ARGUMENT
                send 1 3 0 = STATE
                screen 1 0 1 2 20 20
                send 1 3 0 = true
                """);
        Runs.run("send: of several exceptions the one named first", told + """
                send 4 -1 0 = INDEX
                send -1 1 1001 = INDEX
                send 1 -1 0 = ARGUMENT
                send 1 1000001 0 = ARGUMENT
                send 1 1 -1 = ARGUMENT
                send 1 1 1001 = ARGUMENT
                """);
    }

    private static void whatIsCutOff() {
        Runs.run("send: what is left by cutting goes to OUT 0", BINS + """
                screen 0 2 1 0 20 20
                send 0 59 0 = true
                about 2 5 = 21000
                about 1 5 = 19000
                about 0 5 = 19000
                send 0 1 0 = true
                about 2 5 = 22000
                send 0 2 0 = true
                about 2 5 = 24000
                send 0 3 0 = true
                about 2 5 = 25000
                about 1 5 = 20000
                about 0 5 = 20000
                """);
        Runs.run("send: what is left by cutting goes to OUT 0, even if its share is 0", BINS + """
                screen 0 0 1 2 0 30
                send 0 1 0 = true
                about 0 5 = 1000
                send 0 2 0 = true
                about 0 5 = 1000
                about 1 5 = 1000
                about 2 5 = 1000
                """);
        Runs.run("send: the largest of unlike shares", BINS + """
                screen 0 0 1 2 59 1
                send 0 1000000 1 = true
                about 0 5 = 983334000
                about 1 5 = 16666000
                about 2 5 = 0
                about 0 1 = 983334
                about 1 1 = 16666
                """);
    }

    private static void fullOuts() {
        for (int small = 0; small < 3; small++) {
            StringBuilder bins = new StringBuilder();
            for (int bin = 0; bin < 3; bin++) {
                bins.append("bin 0 ").append(bin == small ? 10 : 100).append(" = ").append(bin).append('\n');
            }
            Runs.run("send: nothing is sent if one of the bins would be more than full, OUT " + small, bins + """
                    screen 0 0 1 2 20 20
                    send 0 33 0 = false
                    about 0 5 = 0
                    about 1 5 = 0
                    about 2 5 = 0
                    shift 1 = 0
                    send 0 30 0 = true
                    about 0 5 = 10000
                    about 1 5 = 10000
                    about 2 5 = 10000
                    send 0 3 0 = false
                    send 0 0 0 = true
                    shift 1 = 30000
                    """);
        }
        Runs.run("send: what is left by cutting may make OUT 0 more than full", """
                bin 0 10 = 0
                bin 0 100 = 1
                bin 0 100 = 2
                screen 0 0 1 2 20 20
                send 0 31 0 = false
                send 0 32 0 = false
                send 0 29 0 = false
                send 0 28 0 = true
                about 0 5 = 10000
                about 1 5 = 9000
                about 2 5 = 9000
                """);
        Runs.run("send: what is left by cutting does not go to the other OUTS", """
                bin 0 100 = 0
                bin 0 10 = 1
                bin 0 10 = 2
                screen 0 0 1 2 20 20
                send 0 32 0 = true
                about 0 5 = 12000
                about 1 5 = 10000
                about 2 5 = 10000
                """);
        Runs.run("send: a full bin that gets nothing refuses nothing", """
                bin 0 10 = 0
                bin 0 10 = 1
                bin 0 10 = 2
                pour 0 10 0 = true
                screen 0 0 1 2 0 30
                send 0 2 0 = true
                send 0 1 0 = false
                pour 2 9 0 = true
                send 0 2 0 = false
                screen 1 1 0 2 60 0
                send 1 9 0 = true
                send 1 1 0 = false
                """);
        Runs.run("send: wrong numbers throw even if nothing could be sent", """
                bin 0 1 = 0
                bin 0 1 = 1
                bin 0 1 = 2
                screen 0 0 1 2 20 20
                send 0 1000001 0 = ARGUMENT
                send 0 9 1001 = ARGUMENT
                send 0 1000000 1000 = false
                """);
    }
}
