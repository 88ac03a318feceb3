/** Promise 1: a new object, and that objects do not share what they hold. */
public final class NewObjectTest {
    public static void main(String[] args) {
        nothingThere(new ResidueFlows());
        sharesAtFirst(new ResidueFlows());
        ResidueFlows used = new ResidueFlows();
        used.share(0, 1, 2);
        used.share(1, 1, 2);
        used.log(10, 1, 1);
        used.bin(0, 100);
        used.pour(0, 50, 500);
        used.row(0, 0);
        used.begin();
        nothingThere(new ResidueFlows());
        sharesAtFirst(new ResidueFlows());
        Check.end();
    }

    private static void nothingThere(ResidueFlows x) {
        for (int kind = 0; kind < 4; kind++) {
            int of = kind;
            Check.badState(x, "volume of no log", () -> x.volume(of, false));
            Check.badState(x, "volume of all of no log", () -> x.volume(of, true));
        }
        Check.badState(x, "boards of no log", () -> x.boards(false));
        Check.badState(x, "boards of all of no log", () -> x.boards(true));
        for (int bin = 0; bin < 8; bin++) {
            int of = bin;
            Check.outOfBounds(x, "about of no bin", () -> x.about(of, 0));
        }
        for (int screen = 0; screen < 4; screen++) {
            int by = screen;
            Check.badState(x, "send by no screen", () -> x.send(by, 0, 0));
        }
        for (int what = 0; what < 4; what++) {
            Check.equal("shift(" + what + ")", x.shift(what), 0);
        }
        Check.equal("carbon()", x.carbon(), 0);
        Check.equal("the first bin", x.bin(1, 10), 0);
        x.pour(0, 10, 0);
        Check.equal("without a row it is 100 percent", x.burn(0, 10, 364), 190000);
        Check.equal("the first row", x.row(0, 100), 1);
    }

    private static void sharesAtFirst(ResidueFlows x) {
        Check.equal("log(40, 0, 0)", x.log(40, 0, 0), 0);
        Check.equal("bark is 1 / 10", x.volume(ResidueFlows.BARK, false), 4 * 63504000L);
        Check.equal("offcuts are 1 / 4 of the rest", x.volume(ResidueFlows.OFFCUTS, false), 9 * 63504000L);
        Check.equal("chips are what is left", x.volume(ResidueFlows.CHIPS, false), 27 * 63504000L);
    }
}
