/** Promises 2 to 5: share, log, volume, boards. */
public final class LogTest {
    private static final long FINE = 63504000L;
    private static final long TOLD = 25200L;

    public static void main(String[] args) {
        ordinaryLogs();
        everyShareIsWhole();
        edgesOfShare();
        edgesOfVolumeOfALog();
        edgesOfBoardsAndKerf();
        edgesOfWhatIsAsked();
        Check.end();
    }

    private static void ordinaryLogs() {
        Runs.run("log: BARK goes away first, KERF is dust, OFFCUTS' share of what is left, all else chips", """
                log 10 12600 2520 = 0
                volume 0 false = 63504000
                volume 1 false = 9*15876000
                volume 2 false = 63504000
                volume 3 false = 3*15876000
                boards false = 5*63504000
                log 1 1 2 = 1
                volume 0 false = 6350400
                volume 1 false = 42808500
                volume 2 false = 2*25200
                volume 3 false = 14269500
                boards false = 25200
                """);
        Runs.run("volume, boards: of the latest log; of all logs, if all", """
                log 1 1 2 = 0
                volume 0 true = 6350400
                volume 1 true = 42808500
                volume 2 true = 50400
                volume 3 true = 14269500
                boards true = 25200
                log 10 12600 2520 = 1
                volume 0 true = 69854400
                volume 1 true = 185692500
                volume 2 true = 63554400
                volume 3 true = 61897500
                boards true = 317545200
                volume 0 false = 63504000
                volume 1 false = 142884000
                volume 2 false = 63504000
                volume 3 false = 47628000
                boards false = 317520000
                """);
        Runs.run("share: a share holds for the logs behind it, those before stay", """
                log 10 0 0 = 0
                share 0 1 1
                share 1 0 1
                volume 0 false = 63504000
                volume 1 true = 27*15876000
                volume 3 false = 9*15876000
                log 10 0 0 = 1
                volume 0 false = 10*63504000
                volume 1 false = 0
                volume 3 false = 0
                volume 0 true = 11*63504000
                volume 1 true = 27*15876000
                volume 3 true = 9*15876000
                """);
    }

    private static void everyShareIsWhole() {
        for (int below = 1; below <= 10; below++) {
            for (int above = 0; above <= below; above++) {
                for (int under = 1; under <= 10; under++) {
                    for (int over = 0; over <= under; over++) {
                        wholeLog(above, below, over, under);
                    }
                }
            }
        }
    }

    /** Multiplied back, no part may have lost anything. */
    private static void wholeLog(int above, int below, int over, int under) {
        ResidueFlows x = new ResidueFlows();
        x.share(0, above, below);
        x.share(1, over, under);
        int wood = 7 * 2520 / below * (below - above);
        x.log(7, wood / 3, wood / 7);
        long bark = x.volume(ResidueFlows.BARK, false);
        long dust = x.volume(ResidueFlows.DUST, false);
        long offcuts = x.volume(ResidueFlows.OFFCUTS, false);
        long chips = x.volume(ResidueFlows.CHIPS, false);
        String shares = above + "/" + below + " and " + over + "/" + under;
        Check.equal("bark by " + shares, bark * below, 7 * FINE * above);
        Check.equal("dust by " + shares, dust, wood / 7 * TOLD);
        Check.equal("boards by " + shares, x.boards(false), wood / 3 * TOLD);
        Check.equal("offcuts by " + shares, offcuts * under, (offcuts + chips) * over);
        Check.equal("all by " + shares, bark + dust + offcuts + chips + x.boards(false), 7 * FINE);
    }

    private static void edgesOfShare() {
        Runs.run("share: what is 0 or 1", """
                share -1 1 2 = INDEX
                share 0 1 2
                share 1 1 4
                share 2 1 2 = INDEX
                share 2147483647 1 2 = INDEX
                share -2147483648 1 2 = INDEX
                log 8 0 0 = 0
                volume 0 false = 4*63504000
                volume 1 false = 3*63504000
                volume 3 false = 63504000
                """);
        Runs.run("share: IndexOutOfBoundsException is named before IllegalArgumentException", """
                share -1 1 0 = INDEX
                share 2 -1 5 = INDEX
                share 2 6 5 = INDEX
                share 2 1 11 = INDEX
                """);
        for (int what = 0; what < 2; what++) {
            // The kind that is all of the log by the share 1 / 1: bark, or offcuts where there is no bark.
            String kind = what == 0 ? "0" : "3";
            belowAndAbove(what == 0 ? "" : "share 0 0 1\n", "share " + what, "volume " + kind + " false");
        }
    }

    private static void belowAndAbove(String first, String share, String volume) {
        Runs.run(share + ": below is 1 .. 10", first + """
                SHARE 0 0 = ARGUMENT
                SHARE 1 0 = ARGUMENT
                SHARE 1 1
                log 1 0 0 = 0
                VOLUME = 63504000
                SHARE 1 10
                log 1 0 0 = 1
                VOLUME = 6350400
                SHARE 1 11 = ARGUMENT
                SHARE 11 11 = ARGUMENT
                SHARE 0 -1 = ARGUMENT
                SHARE -1 -1 = ARGUMENT
                SHARE 0 2147483647 = ARGUMENT
                SHARE 0 -2147483648 = ARGUMENT
                SHARE -2147483648 -2147483648 = ARGUMENT
                log 1 0 0 = 2
                VOLUME = 6350400
                """.replace("SHARE", share).replace("VOLUME", volume));
        Runs.run(share + ": above is 0 .. below", first + """
                SHARE -1 5 = ARGUMENT
                SHARE 0 5
                log 1 0 0 = 0
                VOLUME = 0
                SHARE 5 5
                log 1 0 0 = 1
                VOLUME = 63504000
                SHARE 6 5 = ARGUMENT
                SHARE -1 1 = ARGUMENT
                SHARE 0 1
                log 1 0 0 = 2
                VOLUME = 0
                SHARE 1 1
                log 1 0 0 = 3
                VOLUME = 63504000
                SHARE 2 1 = ARGUMENT
                SHARE -1 10 = ARGUMENT
                SHARE 0 10
                log 1 0 0 = 4
                VOLUME = 0
                SHARE 10 10
                log 1 0 0 = 5
                VOLUME = 63504000
                SHARE 11 10 = ARGUMENT
                SHARE 2147483647 10 = ARGUMENT
                SHARE -2147483648 10 = ARGUMENT
                log 1 0 0 = 6
                VOLUME = 63504000
                """.replace("SHARE", share).replace("VOLUME", volume));
    }

    private static void edgesOfVolumeOfALog() {
        Runs.run("log: volume is 1 .. 1000", """
                log 0 0 0 = ARGUMENT
                log 1 0 0 = 0
                volume 0 false = 6350400
                volume 1 false = 42865200
                volume 3 false = 14288400
                log 1000 0 0 = 1
                volume 0 false = 100*63504000
                volume 1 false = 675*63504000
                volume 3 false = 225*63504000
                log 1001 0 0 = ARGUMENT
                log -1 0 0 = ARGUMENT
                log 2147483647 0 0 = ARGUMENT
                log -2147483648 0 0 = ARGUMENT
                log 999 0 0 = 2
                """);
        Runs.run("log: which one it is (0, 1, ..); one that throws is none", """
                log 0 0 0 = ARGUMENT
                log 5 0 0 = 0
                log 5 -1 0 = ARGUMENT
                log 5 0 0 = 1
                log 1 2269 0 = ARGUMENT
                log 5 0 0 = 2
                """);
    }

    private static void edgesOfBoardsAndKerf() {
        Runs.run("log: boards are not below 0", """
                log 5 -1 0 = ARGUMENT
                log 5 -1 1 = ARGUMENT
                log 5 -1 -1 = ARGUMENT
                log 5 -2147483648 0 = ARGUMENT
                log 5 0 1 = 0
                boards false = 0
                """);
        Runs.run("log: kerf is not below 0", """
                log 5 0 -1 = ARGUMENT
                log 5 1 -1 = ARGUMENT
                log 5 0 -2147483648 = ARGUMENT
                log 5 1 0 = 0
                volume 2 false = 0
                """);
        Runs.run("log: both are together not more than what is left without bark, of the least log", """
                log 1 2268 0 = 0
                boards false = 2268*25200
                volume 1 false = 0
                volume 3 false = 0
                log 1 0 2268 = 1
                volume 2 false = 2268*25200
                volume 1 false = 0
                volume 3 false = 0
                log 1 1134 1134 = 2
                volume 1 false = 0
                log 1 2269 0 = ARGUMENT
                log 1 0 2269 = ARGUMENT
                log 1 1134 1135 = ARGUMENT
                log 1 1135 1134 = ARGUMENT
                log 1 2268 1 = ARGUMENT
                log 1 1 2268 = ARGUMENT
                log 1 2267 0 = 3
                volume 1 false = 18900
                volume 3 false = 6300
                """);
        Runs.run("log: both are together not more than what is left without bark, of the largest log", """
                log 1000 2268000 0 = 0
                boards false = 2268000*25200
                log 1000 0 2268000 = 1
                volume 2 false = 2268000*25200
                log 1000 2268001 0 = ARGUMENT
                log 1000 0 2268001 = ARGUMENT
                log 1000 1134000 1134001 = ARGUMENT
                """);
        Runs.run("log: what is left without bark, by the bark share then", """
                share 0 0 1
                log 1 2521 0 = ARGUMENT
                log 1 2520 0 = 0
                log 1 0 2521 = ARGUMENT
                log 1 0 2520 = 1
                share 0 1 7
                log 1 2161 0 = ARGUMENT
                log 1 2160 0 = 2
                log 1 1 2160 = ARGUMENT
                share 0 9 10
                log 3 757 0 = ARGUMENT
                log 3 0 756 = 3
                share 0 1 1
                log 1000 1 0 = ARGUMENT
                log 1000 0 1 = ARGUMENT
                log 1000 0 0 = 4
                volume 0 false = 1000*63504000
                volume 1 false = 0
                volume 2 false = 0
                volume 3 false = 0
                """);
        // Each of these is small, or below 0, if it is added up or made FINE parts within 32 bits.
        Runs.run("log: boards and kerf that wrap around are more than what is left", """
                log 1000 2147483647 0 = ARGUMENT
                log 1000 0 2147483647 = ARGUMENT
                log 1000 2147483647 1 = ARGUMENT
                log 1000 1 2147483647 = ARGUMENT
                log 1000 2147483647 2147483647 = ARGUMENT
                log 1000 -2147483648 -2147483648 = ARGUMENT
                log 1 170440 0 = ARGUMENT
                log 1 0 170440 = ARGUMENT
                """);
    }

    private static void edgesOfWhatIsAsked() {
        Runs.run("volume: there was no log", """
                volume 0 false = STATE
                volume 3 true = STATE
                log 0 0 0 = ARGUMENT
                volume 0 true = STATE
                log 1 0 0 = 0
                volume 0 true = 6350400
                """);
        Runs.run("volume: a KIND is 0 .. 3", """
                log 1 0 0 = 0
                volume -1 false = INDEX
                volume 0 false = 6350400
                volume 3 false = 14288400
                volume 4 false = INDEX
                volume -1 true = INDEX
                volume 4 true = INDEX
                volume 2147483647 true = INDEX
                volume -2147483648 true = INDEX
                """);
        Runs.run("volume: IndexOutOfBoundsException is named before IllegalStateException", """
                volume -1 false = INDEX
                volume 4 true = INDEX
                """);
        Runs.run("boards: there was no log", """
                boards false = STATE
                boards true = STATE
                log 1001 0 0 = ARGUMENT
                boards true = STATE
                log 1 0 0 = 0
                boards true = 0
                boards false = 0
                """);
        Runs.run("volume, boards: a log that throws is not the latest", """
                log 10 100 200 = 0
                log 1 2268 1 = ARGUMENT
                boards false = 100*25200
                volume 2 false = 200*25200
                boards true = 100*25200
                volume 2 true = 200*25200
                """);
    }
}
