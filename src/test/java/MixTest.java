/** Promises 17 and 18: span, mix. */
public final class MixTest {
    public static void main(String[] args) {
        ordinaryMix();
        edgesOfSpan();
        fullTarget();
        wrongSpans();
        wrongMixes();
        Check.end();
    }

    private static void ordinaryMix() {
        ResidueFlows x = new ResidueFlows();
        x.bin(0, 100);
        x.bin(3, 100);
        x.pour(0, 2, 1);
        x.pour(0, 1, 0);
        x.pour(1, 10, 500);
        Check.equal("mix(0, 1, 2)", x.mix(0, 1, 2), true);
        Check.equal("DRY of the first", x.about(0, 0), 999);
        Check.equal("WATER of the first, cut off", x.about(0, 1), 1);
        Check.equal("DRY of the other", x.about(1, 0), 6999);
        Check.equal("WATER of the other", x.about(1, 1), 5001);
        Check.equal("the other's kind stays", x.about(1, 3), 3);
        Check.equal("OUT", x.shift(2), 2000);
        Check.equal("IN", x.shift(1), 13000);
        Check.equal("all of the first", x.mix(0, 1, 1), true);
        Check.equal("the first is empty", x.about(0, 5), 0);
        Check.equal("back into the empty one", x.mix(1, 0, 13), true);
        Check.equal("all of it is there", x.about(0, 5), 13000);
    }

    /** Half water in the other bin; two kilograms of water alone come to it. */
    private static boolean mixedWithin(int low, int high) {
        ResidueFlows x = new ResidueFlows();
        x.bin(0, 100);
        x.bin(0, 2000);
        x.pour(0, 2, 1000);
        x.pour(1, 1000, 500);
        x.span(1, low, high);
        // A span of the first bin says nothing of what goes away.
        x.span(0, 0, 0);
        boolean mixed = x.mix(0, 1, 2);
        Check.equal("the first bin", x.about(0, 5), mixed ? 0 : 2000);
        Check.equal("WATER of the other bin", x.about(1, 1), mixed ? 502000 : 500000);
        Check.equal("DRY of the other bin", x.about(1, 0), 500000);
        Check.equal("OUT", x.shift(2), mixed ? 2000 : 0);
        return mixed;
    }

    private static void edgesOfSpan() {
        // 502000 * 1000 / 1002000 is 500.99, cut off to 500.
        Check.equal("just the one share", mixedWithin(500, 500), true);
        Check.equal("low above it", mixedWithin(501, 1000), false);
        Check.equal("high below it", mixedWithin(0, 499), false);
        Check.equal("within", mixedWithin(0, 1000), true);
        ResidueFlows x = new ResidueFlows();
        x.bin(0, 10);
        x.bin(0, 10);
        x.pour(0, 10, 1000);
        Check.equal("water alone within the span at first", x.mix(0, 1, 5), true);
        x.span(1, 0, 999);
        Check.equal("water alone out of a span", x.mix(0, 1, 5), false);
        Check.equal("a span says nothing of pouring", x.pour(1, 5, 1000), true);
        x.sell(0, 5, 0);
        x.pour(0, 10, 0);
        x.sell(1, 10, 0);
        Check.equal("dry wood alone", x.mix(0, 1, 5), true);
        x.span(1, 1, 1000);
        Check.equal("dry wood alone below a span", x.mix(0, 1, 1), false);
    }

    private static void fullTarget() {
        ResidueFlows x = new ResidueFlows();
        x.bin(0, 1000);
        x.bin(1, 10);
        x.pour(0, 1000, 250);
        x.pour(1, 5, 0);
        Check.equal("one more than there is room for", x.mix(0, 1, 6), false);
        Check.equal("the first bin stays", x.about(0, 5), 1000000);
        Check.equal("the other bin stays", x.about(1, 5), 5000);
        Check.equal("OUT stays", x.shift(2), 0);
        Check.equal("just what there is room for", x.mix(0, 1, 5), true);
        Check.equal("the other bin is full", x.about(1, 5), 10000);
        Check.equal("one into a full bin", x.mix(0, 1, 1), false);
    }

    private static void wrongSpans() {
        ResidueFlows x = new ResidueFlows();
        Check.outOfBounds(x, "span without a bin", () -> x.span(0, 0, 1000));
        x.bin(0, 10);
        x.bin(0, 10);
        Check.outOfBounds(x, "span(2, 5, 4)", () -> x.span(2, 5, 4));
        Check.outOfBounds(x, "span(-1, 4, 5)", () -> x.span(-1, 4, 5));
        Check.badArgument(x, "span(1, -1, 0)", () -> x.span(1, -1, 0));
        Check.badArgument(x, "span(1, -2, -1)", () -> x.span(1, -2, -1));
        Check.badArgument(x, "span(1, 1, 0)", () -> x.span(1, 1, 0));
        Check.badArgument(x, "span(1, 0, 1001)", () -> x.span(1, 0, 1001));
        Check.badArgument(x, "span(1, 1001, 1001)", () -> x.span(1, 1001, 1001));
        x.pour(0, 10, 500);
        Check.equal("the span is as at first", x.mix(0, 1, 5), true);
        x.span(1, 0, 0);
        x.span(1, 1000, 1000);
        Check.equal("a span of 1000 .. 1000", x.mix(0, 1, 5), false);
    }

    private static void wrongMixes() {
        ResidueFlows x = new ResidueFlows();
        Check.outOfBounds(x, "mix without bins", () -> x.mix(0, 0, 1));
        x.bin(0, 10);
        x.bin(0, 4);
        x.pour(0, 10, 500);
        Check.outOfBounds(x, "mix(2, 0, 1)", () -> x.mix(2, 0, 1));
        Check.outOfBounds(x, "mix(0, 2, 0)", () -> x.mix(0, 2, 0));
        Check.outOfBounds(x, "mix(-1, -1, 1)", () -> x.mix(-1, -1, 1));
        Check.outOfBounds(x, "mix(2, 2, 1)", () -> x.mix(2, 2, 1));
        Check.badArgument(x, "mix(0, 0, 1)", () -> x.mix(0, 0, 1));
        Check.badArgument(x, "mix(1, 1, 1)", () -> x.mix(1, 1, 1));
        Check.badArgument(x, "mix(0, 1, 0)", () -> x.mix(0, 1, 0));
        Check.badArgument(x, "mix(0, 1, -1)", () -> x.mix(0, 1, -1));
        Check.badArgument(x, "mix(0, 1, 1000001)", () -> x.mix(0, 1, 1000001));
        Check.badState(x, "mix(1, 0, 1)", () -> x.mix(1, 0, 1));
        Check.badState(x, "more than there is, and than there is room for", () -> x.mix(0, 1, 11));
        Check.equal("more than there is room for", x.mix(0, 1, 5), false);
    }
}
