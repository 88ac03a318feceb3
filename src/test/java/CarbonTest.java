/** Promise 19: carbon. */
public final class CarbonTest {
    public static void main(String[] args) {
        Runs.run("carbon: nothing without bins, and of empty ones", """
                carbon = 0
                bin 0 10 = 0
                carbon = 0
                """);
        Runs.run("carbon: half of all DRY grams is cut off once, not in each bin", """
                bin 0 10 = 0
                bin 1 10 = 1
                bin 2 10 = 2
                pour 0 1 999 = true
                carbon = 0
                pour 1 1 999 = true
                carbon = 1
                pour 2 1 999 = true
                carbon = 1
                pour 2 1 999 = true
                carbon = 2
                """);
        Runs.run("carbon: water has none", """
                bin 0 10 = 0
                pour 0 10 1000 = true
                carbon = 0
                """);
        StringBuilder full = new StringBuilder();
        for (int bin = 0; bin < 8; bin++) {
            full.append("bin 0 1000000 = ").append(bin).append("\npour ").append(bin).append(" 1000000 0 = true\n");
        }
        Runs.run("carbon: eight full bins of dry wood", full + """
                carbon = 4000000000
                sell 0 1000000 0 = 0
                carbon = 3500000000
                sell 7 1000000 0 = 0
                carbon = 3000000000
                """);
        Runs.run("carbon: what goes away, what is mixed, scales and shifts", """
                bin 0 100 = 0
                bin 1 100 = 1
                pour 0 10 500 = true
                carbon = 2500
                mix 0 1 4 = true
                carbon = 2500
                scale 1 0
                begin
                carbon = 2500
                pour 0 95 0 = false
                carbon = 2500
                burn 0 2 0 = 16000
                carbon = 2000
                sell 1 4 0 = 0
                carbon = 1000
                """);
        Check.end();
    }
}
