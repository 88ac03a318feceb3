/** Promises 11 to 13: scale, shift, begin. */
public final class ShiftTest {
    public static void main(String[] args) {
        readings();
        inAndOut();
        begins();
        wrongInputs();
        Check.end();
    }

    private static void readings() {
        ResidueFlows x = new ResidueFlows();
        x.bin(0, 100);
        x.bin(1, 100);
        x.bin(2, 100);
        x.pour(0, 50, 500);
        x.pour(1, 20, 100);
        x.pour(2, 90, 0);
        Check.equal("LOST without a reading", x.shift(0), 0);
        x.scale(0, 49000);
        Check.equal("LOST by one reading", x.shift(0), 1000);
        x.scale(1, 20500);
        Check.equal("LOST by two readings", x.shift(0), 500);
        x.scale(0, 0);
        Check.equal("LOST by the latest readings", x.shift(0), 49500);
        Check.equal("the latest reading, 0", x.about(0, 4), 0);
        Check.equal("no reading", x.about(2, 4), ResidueFlows.NONE);
        Check.equal("the bin is as it was", x.about(0, 5), 50000);
        x.pour(1, 10, 0);
        Check.equal("LOST goes with what the bin has", x.shift(0), 59500);
        x.scale(2, 1000000000000L);
        Check.equal("LOST below 0", x.shift(0), 59500 + 90000 - 1000000000000L);
    }

    private static void inAndOut() {
        ResidueFlows x = new ResidueFlows();
        for (int i = 0; i < 3; i++) {
            x.bin(0, 1000);
        }
        x.screen(0, 0, 1, 2, 20, 20);
        x.pour(0, 100, 500);
        x.send(0, 31, 7);
        x.pour(1, 1001, 0);
        Check.equal("IN", x.shift(1), 131000);
        Check.equal("OUT before anything went", x.shift(2), 0);
        x.burn(0, 10, 0);
        Check.equal("OUT with what was burned", x.shift(2), 10000);
        x.sell(0, 3, 0);
        Check.equal("OUT with what was sold", x.shift(2), 13000);
        x.mix(0, 1, 5);
        Check.equal("OUT with what was mixed away", x.shift(2), 18000);
        x.span(1, 1000, 1000);
        Check.equal("a mix out of the span", x.mix(0, 1, 5), false);
        Check.equal("OUT without what was not mixed", x.shift(2), 18000);
        Check.equal("IN is what was poured alone", x.shift(1), 131000);
        Check.equal("LOST without a reading", x.shift(0), 0);
    }

    private static void begins() {
        ResidueFlows x = new ResidueFlows();
        x.bin(0, 100);
        x.pour(0, 50, 500);
        x.burn(0, 1, 0);
        x.scale(0, 5);
        Check.equal("shifts begun", x.shift(3), 0);
        x.begin();
        for (int what = 0; what < 3; what++) {
            Check.equal("shift(" + what + ") of a new shift", x.shift(what), 0);
        }
        Check.equal("shifts begun", x.shift(3), 1);
        Check.equal("no reading in this shift", x.about(0, 4), -1);
        Check.equal("the bin stays", x.about(0, 5), 49000);
        x.pour(0, 2, 0);
        x.sell(0, 1, 1);
        x.scale(0, 49999);
        Check.equal("LOST of this shift", x.shift(0), 1);
        Check.equal("IN of this shift", x.shift(1), 2000);
        Check.equal("OUT of this shift", x.shift(2), 1000);
        x.begin();
        x.begin();
        Check.equal("shifts begun", x.shift(3), 3);
        x.log(1, 0, 0);
        x.begin();
        Check.equal("a log stays", x.volume(0, false), 6350400);
    }

    private static void wrongInputs() {
        ResidueFlows x = new ResidueFlows();
        Check.outOfBounds(x, "scale without a bin", () -> x.scale(0, 1));
        x.bin(0, 100);
        Check.outOfBounds(x, "scale(1, -1)", () -> x.scale(1, -1));
        Check.outOfBounds(x, "scale(-1, 1)", () -> x.scale(-1, 1));
        Check.badArgument(x, "scale(0, -1)", () -> x.scale(0, -1));
        Check.badArgument(x, "scale(0, 10^12 + 1)", () -> x.scale(0, 1000000000001L));
        Check.badArgument(x, "scale(0, the least)", () -> x.scale(0, Long.MIN_VALUE));
        Check.outOfBounds(x, "shift(-1)", () -> x.shift(-1));
        Check.outOfBounds(x, "shift(4)", () -> x.shift(4));
    }
}
