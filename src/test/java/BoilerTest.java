/** Promises 14 and 15: row, burn. */
public final class BoilerTest {
    public static void main(String[] args) {
        rows();
        wrongRows();
        proportions();
        heats();
        heatOfTheDay();
        wrongBurns();
        Check.end();
    }

    private static void rows() {
        ResidueFlows x = new ResidueFlows();
        for (int i = 0; i < 8; i++) {
            Check.equal("row " + i, x.row(i == 7 ? 300 : i, i * 200 / 7), i + 1);
        }
        Check.badState(x, "a ninth row", () -> x.row(301, 100));
        Check.badArgument(x, "a ninth row not behind", () -> x.row(300, 100));
        Check.badArgument(x, "a ninth row of too much", () -> x.row(301, 201));
        Check.badArgument(x, "a ninth row on no day", () -> x.row(365, 100));
    }

    private static void wrongRows() {
        ResidueFlows x = new ResidueFlows();
        Check.badArgument(x, "row(-1, 100)", () -> x.row(-1, 100));
        Check.badArgument(x, "row(365, 100)", () -> x.row(365, 100));
        Check.badArgument(x, "row(5, -1)", () -> x.row(5, -1));
        Check.badArgument(x, "row(5, 201)", () -> x.row(5, 201));
        Check.equal("row(0, 200)", x.row(0, 200), 1);
        Check.badArgument(x, "row(0, 100)", () -> x.row(0, 100));
        Check.equal("row(10, 0)", x.row(10, 0), 2);
        Check.badArgument(x, "row(9, 100)", () -> x.row(9, 100));
        Check.equal("row(364, 100)", x.row(364, 100), 3);
        Check.badArgument(x, "row(364, 100) again", () -> x.row(364, 100));
    }

    private static void proportions() {
        ResidueFlows x = new ResidueFlows();
        x.bin(0, 100);
        x.pour(0, 6, 1);
        x.pour(0, 1, 0);
        Check.equal("WATER", x.about(0, 1), 6);
        // 6 * 1000 / 7000 is cut off to 0, so that all that goes is dry.
        Check.equal("burn(0, 1, 0)", x.burn(0, 1, 0), 19000);
        Check.equal("WATER after it", x.about(0, 1), 6);
        Check.equal("DRY after it", x.about(0, 0), 5994);
        // 6 * 5000 / 6000 is 5.
        Check.equal("burn(0, 5, 0)", x.burn(0, 5, 0), 4995 * 19 - 5 * 3);
        Check.equal("WATER after that", x.about(0, 1), 1);
        Check.equal("DRY after that", x.about(0, 0), 999);
        Check.equal("all that is left", x.burn(0, 1, 0), 999 * 19 - 3);
        Check.equal("an empty bin", x.about(0, 5), 0);
        Check.equal("OUT", x.shift(2), 7000);

        x.bin(1, 1000000);
        x.pour(1, 1000000, 999);
        Check.equal("burn of the largest bin", x.burn(1, 999999, 0), 0);
        Check.equal("WATER of what is left", x.about(1, 1), 999);
        Check.equal("DRY of what is left", x.about(1, 0), 1);
    }

    private static void heats() {
        ResidueFlows x = new ResidueFlows();
        x.bin(0, 1000000);
        x.pour(0, 10, 1000);
        Check.equal("HEAT of water is at least 0", x.burn(0, 10, 0), 0);
        x.pour(0, 22, 863);
        Check.equal("HEAT just above 0", x.burn(0, 22, 0), 22 * (137 * 19 - 863 * 3));
        x.pour(0, 22, 864);
        Check.equal("HEAT just below 0", x.burn(0, 22, 0), 0);
        x.pour(0, 1000000, 0);
        x.row(0, 200);
        Check.equal("the largest HEAT", x.burn(0, 1000000, 0), 38000000000L);
        x.row(1, 33);
        x.pour(0, 1, 7);
        Check.equal("HEAT is cut off", x.burn(0, 1, 1), (993 * 19 - 7 * 3) * 33 / 100);
    }

    private static void heatOfTheDay() {
        ResidueFlows x = new ResidueFlows();
        x.bin(0, 1000);
        x.pour(0, 1000, 0);
        x.row(10, 50);
        x.row(20, 0);
        x.row(30, 200);
        int[] days = {0, 9, 10, 19, 20, 29, 30, 364};
        int[] percents = {100, 100, 50, 50, 0, 0, 200, 200};
        for (int i = 0; i < days.length; i++) {
            Check.equal("HEAT at day " + days[i], x.burn(0, 1, days[i]), 190L * percents[i]);
        }
    }

    private static void wrongBurns() {
        ResidueFlows x = new ResidueFlows();
        Check.outOfBounds(x, "burn without a bin", () -> x.burn(0, 1, 1));
        x.bin(0, 1000);
        Check.badState(x, "burn of an empty bin", () -> x.burn(0, 1, 1));
        x.pour(0, 10, 300);
        Check.outOfBounds(x, "burn(1, 0, 1)", () -> x.burn(1, 0, 1));
        Check.outOfBounds(x, "burn(-1, 1, 1)", () -> x.burn(-1, 1, 1));
        Check.badArgument(x, "burn(0, 0, 1)", () -> x.burn(0, 0, 1));
        Check.badArgument(x, "burn(0, -1, 1)", () -> x.burn(0, -1, 1));
        Check.badArgument(x, "burn(0, 1000001, 1)", () -> x.burn(0, 1000001, 1));
        Check.badArgument(x, "burn(0, 11, -1)", () -> x.burn(0, 11, -1));
        Check.badArgument(x, "burn(0, 11, 365)", () -> x.burn(0, 11, 365));
        Check.badState(x, "burn(0, 11, 1)", () -> x.burn(0, 11, 1));
        Check.badState(x, "burn(0, 1000000, 364)", () -> x.burn(0, 1000000, 364));
        Check.equal("all of it", x.burn(0, 10, 1), 7000 * 19 - 3000 * 3);
    }
}
