/** Promises 9 and 10: screen, send. */
public final class ScreenTest {
    public static void main(String[] args) {
        sharesAndRest();
        edgesOfShares();
        toldAgain();
        fullOuts();
        wrongScreens();
        wrongSends();
        Check.end();
    }

    private static ResidueFlows withBins(int most) {
        ResidueFlows x = new ResidueFlows();
        x.bin(1, most);
        x.bin(1, most);
        x.bin(1, most);
        x.bin(2, most);
        return x;
    }

    private static void grams(ResidueFlows x, String when, long first, long second, long third) {
        Check.equal("bin 0 " + when, x.about(0, 5), first);
        Check.equal("bin 1 " + when, x.about(1, 5), second);
        Check.equal("bin 2 " + when, x.about(2, 5), third);
    }

    private static void sharesAndRest() {
        ResidueFlows x = withBins(1000);
        x.screen(3, 0, 1, 2, 10, 20);
        Check.equal("send(3, 60, 250)", x.send(3, 60, 250), true);
        grams(x, "by 60ths", 10000, 20000, 30000);
        Check.equal("WATER of bin 1", x.about(1, 1), 5000);
        Check.equal("DRY of bin 2", x.about(2, 0), 22500);
        Check.equal("send(3, 11, 0)", x.send(3, 11, 0), true);
        grams(x, "with what is left by cutting", 13000, 23000, 35000);
        Check.equal("IN", x.shift(1), 71000);
        Check.equal("send(3, 0, 1000)", x.send(3, 0, 1000), true);
        Check.equal("send(3, 1, 1000)", x.send(3, 1, 1000), true);
        grams(x, "with one that cannot be cut", 14000, 23000, 35000);
        Check.equal("WATER of bin 0", x.about(0, 1), 3500);
    }

    private static void edgesOfShares() {
        ResidueFlows x = withBins(1000000);
        x.screen(0, 0, 1, 2, 0, 0);
        x.screen(1, 0, 1, 2, 0, 60);
        x.screen(2, 2, 1, 0, 60, 0);
        Check.equal("all to the third", x.send(0, 1000000, 1), true);
        grams(x, "after all to the third", 0, 0, 1000000000L);
        Check.equal("all to the second", x.send(1, 7, 1), true);
        grams(x, "after all to the second", 0, 7000, 1000000000L);
        Check.equal("all to a first one that is full", x.send(2, 1, 1), false);
        Check.equal("nothing to a full one", x.send(1, 3, 1), true);
        grams(x, "at last", 0, 10000, 1000000000L);
    }

    private static void toldAgain() {
        ResidueFlows x = withBins(1000);
        x.screen(0, 0, 1, 2, 60, 0);
        x.screen(0, 2, 0, 1, 30, 15);
        Check.equal("send(0, 4, 0)", x.send(0, 4, 0), true);
        grams(x, "by the screen told last", 1000, 1000, 2000);
    }

    private static void fullOuts() {
        for (int full = 0; full < 3; full++) {
            ResidueFlows x = withBins(100);
            x.screen(0, 0, 1, 2, 20, 20);
            x.pour(full, 99, 0);
            long in = x.shift(1);
            Check.equal("two into a bin with room for one", x.send(0, 6, 0), false);
            grams(x, "after nothing was sent", full == 0 ? 99000 : 0, full == 1 ? 99000 : 0, full == 2 ? 99000 : 0);
            Check.equal("IN after nothing was sent", x.shift(1), in);
            Check.equal("one into a bin with room for one", x.send(0, 3, 0), true);
            Check.equal("the full bin", x.about(full, 5), 100000);
        }
        ResidueFlows x = withBins(100);
        x.screen(0, 0, 1, 2, 20, 20);
        x.pour(0, 99, 0);
        Check.equal("one and a rest of one into room for one", x.send(0, 4, 0), false);
    }

    private static void wrongScreens() {
        ResidueFlows x = withBins(100);
        Check.outOfBounds(x, "screen(-1, ..)", () -> x.screen(-1, 0, 1, 2, 20, 20));
        Check.outOfBounds(x, "screen(4, ..)", () -> x.screen(4, 0, 0, 2, 20, 20));
        Check.outOfBounds(x, "bin0 is none", () -> x.screen(0, 4, 1, 2, 20, 20));
        Check.outOfBounds(x, "bin1 is none", () -> x.screen(0, 0, -1, 2, 20, 20));
        Check.outOfBounds(x, "bin2 is none", () -> x.screen(0, 0, 0, 8, -1, 20));
        Check.badArgument(x, "bins 0 and 1 are one", () -> x.screen(0, 1, 1, 2, 20, 20));
        Check.badArgument(x, "bins 0 and 2 are one", () -> x.screen(0, 1, 2, 1, 20, 20));
        Check.badArgument(x, "bins 1 and 2 are one", () -> x.screen(0, 0, 1, 1, 20, 20));
        Check.badArgument(x, "bin0 of another kind", () -> x.screen(0, 3, 1, 2, 20, 20));
        Check.badArgument(x, "bin1 of another kind", () -> x.screen(0, 0, 3, 2, 20, 20));
        Check.badArgument(x, "bin2 of another kind", () -> x.screen(0, 0, 1, 3, 20, 20));
        Check.badArgument(x, "a0 below 0", () -> x.screen(0, 0, 1, 2, -1, 20));
        Check.badArgument(x, "a1 below 0", () -> x.screen(0, 0, 1, 2, 20, -1));
        Check.badArgument(x, "the third share below 0", () -> x.screen(0, 0, 1, 2, 30, 31));
        int most = Integer.MAX_VALUE;
        Check.badArgument(x, "shares that wrap around", () -> x.screen(0, 0, 1, 2, most, most));
        Check.badArgument(x, "a third share that wraps around", () -> x.screen(0, 0, 1, 2, most, 2));
        Check.badArgument(x, "the least shares", () -> x.screen(0, 0, 1, 2, Integer.MIN_VALUE, Integer.MIN_VALUE));
        Check.badState(x, "no screen was told", () -> x.send(0, 1, 1));
        x.screen(0, 0, 1, 2, 0, 60);
        Check.badArgument(x, "a wrong screen told again", () -> x.screen(0, 0, 1, 3, 60, 0));
        Check.equal("the screen as it was", x.send(0, 2, 0), true);
        grams(x, "by the screen as it was", 0, 2000, 0);
    }

    private static void wrongSends() {
        ResidueFlows x = withBins(100);
        x.screen(0, 0, 1, 2, 20, 20);
        Check.outOfBounds(x, "send(-1, 1, 1)", () -> x.send(-1, 1, 1));
        Check.outOfBounds(x, "send(4, -1, 1)", () -> x.send(4, -1, 1));
        for (int screen = 0; screen < 2; screen++) {
            int by = screen;
            Check.badArgument(x, "send(_, -1, 1)", () -> x.send(by, -1, 1));
            Check.badArgument(x, "send(_, 1000001, 1)", () -> x.send(by, 1000001, 1));
            Check.badArgument(x, "send(_, 1, -1)", () -> x.send(by, 1, -1));
            Check.badArgument(x, "send(_, 1, 1001)", () -> x.send(by, 1, 1001));
        }
        Check.badState(x, "send(1, 1, 1)", () -> x.send(1, 1, 1));
        Check.equal("send(0, 1000000, 1000)", x.send(0, 1000000, 1000), false);
    }
}
