/** Promises 2 to 5: share, log, volume, boards. */
public final class LogTest {
    private static final long FINE = 63504000L;
    private static final long TOLD = 25200L;

    public static void main(String[] args) {
        ordinaryLog();
        everyShareIsExact();
        sharesOfEarlierLogsStay();
        wrongShares();
        edgesOfLog();
        wrongVolumes();
        Check.end();
    }

    private static void volumes(ResidueFlows x, boolean all, long bark, long chips, long dust, long offcuts) {
        Check.equal("bark, all " + all, x.volume(ResidueFlows.BARK, all), bark);
        Check.equal("chips, all " + all, x.volume(ResidueFlows.CHIPS, all), chips);
        Check.equal("dust, all " + all, x.volume(ResidueFlows.DUST, all), dust);
        Check.equal("offcuts, all " + all, x.volume(ResidueFlows.OFFCUTS, all), offcuts);
    }

    private static void ordinaryLog() {
        ResidueFlows x = new ResidueFlows();
        Check.equal("log(10, 12600, 2520)", x.log(10, 12600, 2520), 0);
        volumes(x, false, FINE, 3 * FINE * 3 / 4, FINE, 3 * FINE / 4);
        Check.equal("boards(false)", x.boards(false), 5 * FINE);
        Check.equal("log(1, 1, 2)", x.log(1, 1, 2), 1);
        long left = FINE - FINE / 10 - 3 * TOLD;
        volumes(x, false, FINE / 10, left - left / 4, 2 * TOLD, left / 4);
        volumes(x, true, FINE + FINE / 10, 3 * FINE * 3 / 4 + left - left / 4, FINE + 2 * TOLD,
                3 * FINE / 4 + left / 4);
        Check.equal("boards(false)", x.boards(false), TOLD);
        Check.equal("boards(true)", x.boards(true), 5 * FINE + TOLD);
    }

    private static void everyShareIsExact() {
        for (int below = 1; below <= 10; below++) {
            for (int above = 0; above <= below; above++) {
                for (int under = 1; under <= 10; under++) {
                    exactLog(above, below, under / 2, under);
                }
            }
        }
    }

    private static void exactLog(int above, int below, int over, int under) {
        ResidueFlows x = new ResidueFlows();
        x.share(0, above, below);
        x.share(1, over, under);
        int wood = 7 * 2520 / below * (below - above);
        x.log(7, wood / 3, wood / 7);
        long bark = x.volume(ResidueFlows.BARK, false);
        long dust = x.volume(ResidueFlows.DUST, false);
        long offcuts = x.volume(ResidueFlows.OFFCUTS, false);
        long chips = x.volume(ResidueFlows.CHIPS, false);
        String shares = above + "/" + below + " and " + over + "/" + under;
        Check.equal("bark by " + shares, bark * below, 7 * FINE * above);
        Check.equal("dust by " + shares, dust, wood / 7 * TOLD);
        Check.equal("offcuts by " + shares, offcuts * under, (offcuts + chips) * over);
        Check.equal("all by " + shares, bark + dust + offcuts + chips + x.boards(false), 7 * FINE);
    }

    private static void sharesOfEarlierLogsStay() {
        ResidueFlows x = new ResidueFlows();
        x.log(10, 0, 0);
        x.share(0, 1, 1);
        x.share(1, 0, 1);
        volumes(x, false, FINE, 9 * FINE * 3 / 4, 0, 9 * FINE / 4);
        volumes(x, true, FINE, 9 * FINE * 3 / 4, 0, 9 * FINE / 4);
        x.log(10, 0, 0);
        volumes(x, false, 10 * FINE, 0, 0, 0);
        volumes(x, true, 11 * FINE, 9 * FINE * 3 / 4, 0, 9 * FINE / 4);
    }

    private static void wrongShares() {
        ResidueFlows x = new ResidueFlows();
        Check.outOfBounds(x, "share(-1, 1, 2)", () -> x.share(-1, 1, 2));
        Check.outOfBounds(x, "share(2, 1, 2)", () -> x.share(2, 1, 2));
        Check.outOfBounds(x, "share(2, 1, 0)", () -> x.share(2, 1, 0));
        for (int what = 0; what < 2; what++) {
            int of = what;
            Check.badArgument(x, "share(_, 0, 0)", () -> x.share(of, 0, 0));
            Check.badArgument(x, "share(_, 0, -1)", () -> x.share(of, 0, -1));
            Check.badArgument(x, "share(_, 1, 11)", () -> x.share(of, 1, 11));
            Check.badArgument(x, "share(_, -1, 5)", () -> x.share(of, -1, 5));
            Check.badArgument(x, "share(_, 6, 5)", () -> x.share(of, 6, 5));
        }
        x.log(40, 0, 0);
        volumes(x, false, 4 * FINE, 27 * FINE, 0, 9 * FINE);
    }

    private static void edgesOfLog() {
        ResidueFlows x = new ResidueFlows();
        Check.badArgument(x, "log(0, 0, 0)", () -> x.log(0, 0, 0));
        Check.badArgument(x, "log(1001, 0, 0)", () -> x.log(1001, 0, 0));
        Check.badArgument(x, "log(-5, 0, 0)", () -> x.log(-5, 0, 0));
        Check.equal("log(1000, 0, 0)", x.log(1000, 0, 0), 0);
        volumes(x, false, 100 * FINE, 675 * FINE, 0, 225 * FINE);
        Check.badArgument(x, "log(5, -1, 0)", () -> x.log(5, -1, 0));
        Check.badArgument(x, "log(5, 0, -1)", () -> x.log(5, 0, -1));
        Check.badArgument(x, "log(5, 100, -1)", () -> x.log(5, 100, -1));
        Check.badArgument(x, "log(1, 2269, 0)", () -> x.log(1, 2269, 0));
        Check.badArgument(x, "log(1, 0, 2269)", () -> x.log(1, 0, 2269));
        Check.badArgument(x, "log(1, 1134, 1135)", () -> x.log(1, 1134, 1135));
        int most = Integer.MAX_VALUE;
        Check.badArgument(x, "log of the largest numbers", () -> x.log(1000, most, most));
        Check.badArgument(x, "log of the least numbers", () -> x.log(1000, Integer.MIN_VALUE, Integer.MIN_VALUE));
        Check.equal("log(1, 1134, 1134)", x.log(1, 1134, 1134), 1);
        volumes(x, false, FINE / 10, 0, FINE * 9 / 20, 0);
    }

    private static void wrongVolumes() {
        ResidueFlows x = new ResidueFlows();
        Check.outOfBounds(x, "volume(4, false) without a log", () -> x.volume(4, false));
        Check.outOfBounds(x, "volume(-1, true) without a log", () -> x.volume(-1, true));
        Check.badState(x, "volume(3, true) without a log", () -> x.volume(3, true));
        x.log(1, 0, 0);
        Check.outOfBounds(x, "volume(4, true)", () -> x.volume(4, true));
        Check.outOfBounds(x, "volume(-1, false)", () -> x.volume(-1, false));
        Check.equal("boards(true) of a log without boards", x.boards(true), 0);
    }
}
