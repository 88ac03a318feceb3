/** Promise 16: sell. */
public final class SellTest {
    public static void main(String[] args) {
        prices();
        proportions();
        wrongSales();
        Check.end();
    }

    private static void prices() {
        ResidueFlows x = new ResidueFlows();
        x.bin(1, 1000000);
        x.pour(0, 1000, 400);
        Check.equal("half a ton of 40 % water", x.sell(0, 500, 12345), 3703);
        Check.equal("DRY that is left", x.about(0, 0), 300000);
        Check.equal("WATER that is left", x.about(0, 1), 200000);
        Check.equal("OUT", x.shift(2), 500000);
        Check.equal("for nothing", x.sell(0, 100, 0), 0);
        Check.equal("just below a cent", x.sell(0, 1, 1666), 0);
        Check.equal("just a cent", x.sell(0, 1, 1667), 1);
        x.sell(0, 398, 1);
        x.pour(0, 1000000, 0);
        Check.equal("the dearest sale", x.sell(0, 1000000, 1000000), 1000000000L);
        Check.equal("nothing is left", x.about(0, 5), 0);
        x.pour(0, 10, 1000);
        Check.equal("water alone", x.sell(0, 10, 1000000), 0);
    }

    private static void proportions() {
        ResidueFlows x = new ResidueFlows();
        x.bin(0, 100);
        x.pour(0, 2, 1);
        x.pour(0, 1, 0);
        // 2 * 1000 / 3000 is cut off to 0, so that a whole kilogram of dry wood is sold.
        Check.equal("sell(0, 1, 1000)", x.sell(0, 1, 1000), 1);
        Check.equal("WATER after it", x.about(0, 1), 2);
        Check.equal("DRY after it", x.about(0, 0), 1998);
        Check.equal("sell(0, 1, 1000) of wet wood", x.sell(0, 1, 1000), 0);
        Check.equal("WATER after that", x.about(0, 1), 1);
    }

    private static void wrongSales() {
        ResidueFlows x = new ResidueFlows();
        Check.outOfBounds(x, "sell without a bin", () -> x.sell(0, 1, 1));
        x.bin(0, 1000);
        Check.badState(x, "sell of an empty bin", () -> x.sell(0, 1, 1));
        x.pour(0, 10, 300);
        Check.outOfBounds(x, "sell(1, 0, 1)", () -> x.sell(1, 0, 1));
        Check.outOfBounds(x, "sell(-1, 1, 1)", () -> x.sell(-1, 1, 1));
        Check.badArgument(x, "sell(0, 0, 1)", () -> x.sell(0, 0, 1));
        Check.badArgument(x, "sell(0, -1, 1)", () -> x.sell(0, -1, 1));
        Check.badArgument(x, "sell(0, 1000001, 1)", () -> x.sell(0, 1000001, 1));
        Check.badArgument(x, "sell(0, 11, -1)", () -> x.sell(0, 11, -1));
        Check.badArgument(x, "sell(0, 11, 1000001)", () -> x.sell(0, 11, 1000001));
        Check.badState(x, "sell(0, 11, 1)", () -> x.sell(0, 11, 1));
        Check.equal("all of it", x.sell(0, 10, 1000000), 7000);
    }
}
