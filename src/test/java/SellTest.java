/** Promise 16: sell. */
public final class SellTest {
    public static void main(String[] args) {
        prices();
        proportions();
        edges();
        Check.end();
    }

    private static void prices() {
        Runs.run("sell: DRY grams * cents / 1000000", """
                bin 1 1000 = 0
                pour 0 1000 400 = true
                sell 0 500 12345 = 3703
                about 0 0 = 300000
                about 0 1 = 200000
                shift 2 = 500000
                """);
        Runs.run("sell: cents are cut off", """
                bin 1 1000 = 0
                pour 0 100 0 = true
                sell 0 1 999 = 0
                sell 0 1 1000 = 1
                sell 0 1 1999 = 1
                sell 0 1 2000 = 2
                """);
        Runs.run("sell: water is for nothing", """
                bin 1 10 = 0
                pour 0 10 1000 = true
                sell 0 10 1000000 = 0
                about 0 5 = 0
                shift 2 = 10000
                """);
    }

    private static void proportions() {
        Runs.run("sell: WATER goes as it is BURNED, cut off; the rest DRY", """
                bin 0 100 = 0
                pour 0 2 1 = true
                pour 0 1 0 = true
                sell 0 1 1000 = 1
                about 0 1 = 2
                about 0 0 = 1998
                sell 0 1 1000 = 0
                about 0 1 = 1
                about 0 0 = 999
                """);
    }

    private static void edges() {
        String bin = "bin 0 1000000 = 0\npour 0 10 300 = true\n";
        Runs.run("sell: there is no such bin", """
                sell 0 1 0 = INDEX
                bin 0 10 = 0
                pour 0 10 0 = true
                sell 0 1 1000 = 1
                sell -1 1 0 = INDEX
                sell 1 1 0 = INDEX
                sell 8 1 0 = INDEX
                sell 2147483647 1 0 = INDEX
                sell -2147483648 1 0 = INDEX
                """);
        Runs.run("sell: kilograms are 1 .. 1000000", """
                bin 0 1000000 = 0
                pour 0 1000000 0 = true
                sell 0 0 0 = ARGUMENT
                sell 0 -1 0 = ARGUMENT
                sell 0 1000001 0 = ARGUMENT
                sell 0 2147483647 0 = ARGUMENT
                sell 0 -2147483648 0 = ARGUMENT
                sell 0 1000000 1000000 = 1000000000
                about 0 5 = 0
                pour 0 1 0 = true
                sell 0 1 1000000 = 1000
                """);
        Runs.run("sell: cents are 0 .. 1000000", bin + """
                sell 0 1 -1 = ARGUMENT
                sell 0 1 0 = 0
                sell 0 1 1000000 = 700
                sell 0 1 1000001 = ARGUMENT
                sell 0 1 2147483647 = ARGUMENT
                sell 0 1 -2147483648 = ARGUMENT
                """);
        Runs.run("sell: there is not so much", bin + """
                sell 0 11 0 = STATE
                sell 0 1000000 0 = STATE
                sell 0 9 1000000 = 6300
                sell 0 2 0 = STATE
                sell 0 1 1000000 = 700
                about 0 0 = 0
                about 0 1 = 0
                sell 0 1 0 = STATE
                """);
        Runs.run("sell: nothing is in an empty bin", """
                bin 0 10 = 0
                sell 0 1 0 = STATE
                """);
        Runs.run("sell: of several exceptions the one named first", bin + """
                sell 1 0 0 = INDEX
                sell -1 1 1000001 = INDEX
                sell 1 11 0 = INDEX
                sell 0 1000001 0 = ARGUMENT
                sell 0 11 -1 = ARGUMENT
                sell 0 11 1000001 = ARGUMENT
                """);
    }
}
