/** Promises 6 to 8: bin, pour, about. */
public final class BinTest {
    public static void main(String[] args) {
        numbersOfBins();
        ordinaryPour();
        fullBin();
        wrongPours();
        aboutBins();
        Check.end();
    }

    private static void numbersOfBins() {
        ResidueFlows x = new ResidueFlows();
        Check.outOfBounds(x, "bin(-1, 5)", () -> x.bin(-1, 5));
        Check.outOfBounds(x, "bin(4, 0)", () -> x.bin(4, 0));
        Check.badArgument(x, "bin(0, 0)", () -> x.bin(0, 0));
        Check.badArgument(x, "bin(0, -1)", () -> x.bin(0, -1));
        Check.badArgument(x, "bin(3, 1000001)", () -> x.bin(3, 1000001));
        for (int i = 0; i < 8; i++) {
            int most = i % 2 == 0 ? 1 : 1000000;
            Check.equal("bin " + i, x.bin(i % 4, most), i);
            Check.equal("most of bin " + i, x.about(i, 2), most);
            Check.equal("kind of bin " + i, x.about(i, 3), i % 4);
        }
        Check.badState(x, "a ninth bin", () -> x.bin(0, 5));
        Check.badArgument(x, "a ninth bin that holds nothing", () -> x.bin(0, 0));
        Check.outOfBounds(x, "a ninth bin of no kind", () -> x.bin(4, 0));
    }

    private static void ordinaryPour() {
        ResidueFlows x = new ResidueFlows();
        x.bin(2, 100);
        Check.equal("pour(0, 7, 333)", x.pour(0, 7, 333), true);
        Check.equal("DRY", x.about(0, 0), 4669);
        Check.equal("WATER", x.about(0, 1), 2331);
        Check.equal("pour(0, 3, 1000)", x.pour(0, 3, 1000), true);
        Check.equal("pour(0, 2, 0)", x.pour(0, 2, 0), true);
        Check.equal("DRY", x.about(0, 0), 6669);
        Check.equal("WATER", x.about(0, 1), 5331);
        Check.equal("all grams", x.about(0, 5), 12000);
        Check.equal("IN", x.shift(1), 12000);
    }

    private static void fullBin() {
        ResidueFlows x = new ResidueFlows();
        x.bin(0, 10);
        x.bin(1, 1000000);
        Check.equal("one more than it holds", x.pour(0, 11, 0), false);
        Check.equal("nothing was poured", x.about(0, 5), 0);
        Check.equal("just what it holds", x.pour(0, 10, 500), true);
        Check.equal("nothing into a full bin", x.pour(0, 0, 1000), true);
        Check.equal("one into a full bin", x.pour(0, 1, 0), false);
        Check.equal("the largest bin", x.pour(1, 1000000, 1000), true);
        Check.equal("the largest again", x.pour(1, 1000000, 1000), false);
        Check.equal("WATER of the largest", x.about(1, 1), 1000000000L);
        Check.equal("DRY of the largest", x.about(1, 0), 0);
        Check.equal("IN without what was not poured", x.shift(1), 1000010000L);
    }

    private static void wrongPours() {
        ResidueFlows x = new ResidueFlows();
        Check.outOfBounds(x, "pour without a bin", () -> x.pour(0, 1, 1));
        x.bin(0, 1000);
        Check.outOfBounds(x, "pour(1, 1, 1)", () -> x.pour(1, 1, 1));
        Check.outOfBounds(x, "pour(-1, -1, 1)", () -> x.pour(-1, -1, 1));
        Check.outOfBounds(x, "pour(8, 1, 1)", () -> x.pour(8, 1, 1));
        Check.badArgument(x, "pour(0, -1, 1)", () -> x.pour(0, -1, 1));
        Check.badArgument(x, "pour(0, 1000001, 1)", () -> x.pour(0, 1000001, 1));
        Check.badArgument(x, "pour(0, 1, -1)", () -> x.pour(0, 1, -1));
        Check.badArgument(x, "pour(0, 1, 1001)", () -> x.pour(0, 1, 1001));
        Check.equal("pour(0, 1000000, 1)", x.pour(0, 1000000, 1), false);
    }

    private static void aboutBins() {
        ResidueFlows x = new ResidueFlows();
        x.bin(3, 77);
        x.bin(1, 88);
        x.pour(1, 5, 100);
        x.scale(1, 4321);
        long[] due = {4500, 500, 88, 1, 4321, 5000};
        for (int what = 0; what < 6; what++) {
            Check.equal("about(1, " + what + ")", x.about(1, what), due[what]);
        }
        long[] untouched = {0, 0, 77, 3, -1, 0};
        for (int what = 0; what < 6; what++) {
            Check.equal("about(0, " + what + ")", x.about(0, what), untouched[what]);
        }
        Check.outOfBounds(x, "about(0, -1)", () -> x.about(0, -1));
        Check.outOfBounds(x, "about(0, 6)", () -> x.about(0, 6));
        Check.outOfBounds(x, "about(2, 0)", () -> x.about(2, 0));
        Check.outOfBounds(x, "about(-1, 0)", () -> x.about(-1, 0));
    }
}
