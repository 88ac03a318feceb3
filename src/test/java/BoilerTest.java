/** Promises 14 and 15: row, burn. */
public final class BoilerTest {
    public static void main(String[] args) {
        edgesOfRow();
        proportions();
        edgesOfBurn();
        heat();
        heatOfTheDay();
        Check.end();
    }

    private static void edgesOfRow() {
        Runs.run("row: day is 0 .. 364", """
                row -1 50 = ARGUMENT
                row 0 50 = 1
                row 365 50 = ARGUMENT
                row 364 50 = 2
                row 365 50 = ARGUMENT
                row 2147483647 50 = ARGUMENT
                row -2147483648 50 = ARGUMENT
                """);
        Runs.run("row: day is behind the one before", """
                row 10 50 = 1
                row 10 60 = ARGUMENT
                row 9 60 = ARGUMENT
                row 0 60 = ARGUMENT
                row 11 60 = 2
                row 10 70 = ARGUMENT
                row 11 70 = ARGUMENT
                row 12 70 = 3
                row 364 80 = 4
                row 364 90 = ARGUMENT
                row 363 90 = ARGUMENT
                """);
        Runs.run("row: percent is 0 .. 200", """
                row 1 -1 = ARGUMENT
                row 1 0 = 1
                row 2 200 = 2
                row 3 201 = ARGUMENT
                row 3 2147483647 = ARGUMENT
                row 3 -2147483648 = ARGUMENT
                row 3 100 = 3
                """);
        String eight = """
                row 0 10 = 1
                row 1 20 = 2
                row 2 30 = 3
                row 3 40 = 4
                row 4 50 = 5
                row 5 60 = 6
                row 6 70 = 7
                row 300 80 = 8
                """;
        Runs.run("row: there are 8, and a ninth has no room", eight + """
                row 301 90 = STATE
                row 364 90 = STATE
                bin 0 10 = 0
                pour 0 3 0 = true
                burn 0 1 299 = 13300
                burn 0 1 300 = 15200
                burn 0 1 364 = 15200
                """);
        Runs.run("row: IllegalArgumentException is named before IllegalStateException", eight + """
                row 300 90 = ARGUMENT
                row -1 90 = ARGUMENT
                row 365 90 = ARGUMENT
                row 301 -1 = ARGUMENT
                row 301 201 = ARGUMENT
                row 301 200 = STATE
                """);
        Runs.run("row: how many there are; one that throws is none", """
                row 365 50 = ARGUMENT
                row 5 201 = ARGUMENT
                row 5 50 = 1
                row 5 50 = ARGUMENT
                row 6 50 = 2
                """);
    }

    private static void proportions() {
        Runs.run("burn: WATER * kilograms * 1000 / all, cut off; the rest DRY", """
                bin 0 100 = 0
                pour 0 6 1 = true
                pour 0 1 0 = true
                about 0 1 = 6
                burn 0 1 0 = 19*1000
                about 0 1 = 6
                about 0 0 = 5994
                burn 0 5 0 = 94890
                about 0 1 = 1
                about 0 0 = 999
                shift 2 = 6000
                """);
        Runs.run("burn: the largest numbers do not wrap around", """
                bin 0 1000000 = 0
                pour 0 1000000 1000 = true
                burn 0 999999 0 = 0
                about 0 0 = 0
                about 0 1 = 1000
                sell 0 1 0 = 0
                pour 0 1000000 999 = true
                burn 0 999999 0 = 0
                about 0 0 = 1
                about 0 1 = 999
                shift 2 = 1999999000
                """);
        Runs.run("burn: an almost dry and an almost wet bin", """
                bin 0 1000 = 0
                bin 0 1000 = 1
                pour 0 1 999 = true
                pour 0 999 1000 = true
                pour 1 1 1 = true
                pour 1 999 0 = true
                burn 0 1 0 = 0
                about 0 0 = 0
                about 0 1 = 999000
                burn 1 999 0 = 18981000
                about 1 0 = 999
                about 1 1 = 1
                """);
    }

    private static void edgesOfBurn() {
        String bin = "bin 0 1000000 = 0\npour 0 10 300 = true\n";
        Runs.run("burn: there is no such bin", """
                burn 0 1 0 = INDEX
                bin 0 10 = 0
                pour 0 10 0 = true
                burn 0 1 0 = 19000
                burn -1 1 0 = INDEX
                burn 1 1 0 = INDEX
                burn 8 1 0 = INDEX
                burn 2147483647 1 0 = INDEX
                burn -2147483648 1 0 = INDEX
                """);
        Runs.run("burn: kilograms are 1 .. 1000000", """
                bin 0 1000000 = 0
                pour 0 1000000 0 = true
                burn 0 0 0 = ARGUMENT
                burn 0 -1 0 = ARGUMENT
                burn 0 1000001 0 = ARGUMENT
                burn 0 2147483647 0 = ARGUMENT
                burn 0 -2147483648 0 = ARGUMENT
                burn 0 1000000 0 = 19000000000
                about 0 5 = 0
                pour 0 1 0 = true
                burn 0 1 0 = 19000
                """);
        Runs.run("burn: day is 0 .. 364", bin + """
                burn 0 1 -1 = ARGUMENT
                burn 0 1 0 = 12400
                burn 0 1 364 = 12400
                burn 0 1 365 = ARGUMENT
                burn 0 1 2147483647 = ARGUMENT
                burn 0 1 -2147483648 = ARGUMENT
                """);
        Runs.run("burn: there is not so much", bin + """
                burn 0 11 0 = STATE
                burn 0 1000000 0 = STATE
                burn 0 9 0 = 111600
                burn 0 2 0 = STATE
                burn 0 1 0 = 12400
                about 0 0 = 0
                about 0 1 = 0
                burn 0 1 0 = STATE
                """);
        Runs.run("burn: nothing is in an empty bin", """
                bin 0 10 = 0
                burn 0 1 0 = STATE
                pour 0 0 500 = true
                burn 0 1 0 = STATE
                """);
        Runs.run("burn: of several exceptions the one named first", bin + """
                burn 1 0 0 = INDEX
                burn -1 1 365 = INDEX
                burn 1 11 0 = INDEX
                burn 0 1000001 0 = ARGUMENT
                burn 0 11 -1 = ARGUMENT
                burn 0 11 365 = ARGUMENT
                burn 0 0 365 = ARGUMENT
                """);
        Runs.run("burn: its full bin has room again", """
                bin 0 10 = 0
                bin 0 10 = 1
                pour 0 10 0 = true
                pour 1 10 500 = true
                burn 0 10 0 = 190000
                about 0 5 = 0
                about 1 5 = 10000
                pour 0 10 0 = true
                """);
    }

    private static void heat() {
        Runs.run("burn: HEAT is DRY grams * 19 - WATER grams * 3", """
                bin 0 100 = 0
                pour 0 10 250 = true
                burn 0 10 0 = 135000
                pour 0 10 0 = true
                burn 0 10 0 = 190000
                """);
        Runs.run("burn: HEAT is at least 0", """
                bin 0 100 = 0
                pour 0 10 1000 = true
                burn 0 10 0 = 0
                pour 0 3 0 = true
                pour 0 19 1000 = true
                burn 0 22 0 = 0
                pour 0 1 910 = true
                pour 0 1 0 = true
                pour 0 6 1000 = true
                burn 0 8 0 = 0
                about 0 5 = 0
                pour 0 1 909 = true
                pour 0 1 0 = true
                pour 0 6 1000 = true
                burn 0 8 0 = 2
                row 0 50 = 1
                pour 0 1 591 = true
                pour 0 2 1000 = true
                burn 0 3 0 = 0
                row 1 200 = 2
                pour 0 10 1000 = true
                burn 0 10 1 = 0
                """);
        Runs.run("burn: HEAT times the percentage, by 100, cut off", """
                bin 0 100 = 0
                row 0 33 = 1
                pour 0 1 7 = true
                burn 0 1 0 = 6219
                row 1 49 = 2
                pour 0 1 909 = true
                pour 0 1 0 = true
                pour 0 6 1000 = true
                burn 0 8 1 = 0
                row 2 50 = 3
                pour 0 1 909 = true
                pour 0 1 0 = true
                pour 0 6 1000 = true
                burn 0 8 2 = 1
                """);
        Runs.run("burn: the largest HEAT", """
                bin 0 1000000 = 0
                row 0 200 = 1
                pour 0 1000000 0 = true
                burn 0 1000000 0 = 38000000000
                """);
    }

    private static void heatOfTheDay() {
        String dry = "bin 0 1000 = 0\npour 0 1000 0 = true\n";
        Runs.run("burn: the last of the ROWS whose day is not behind it; 100 without one", dry + """
                row 10 50 = 1
                row 20 0 = 2
                row 30 200 = 3
                burn 0 1 0 = 19000
                burn 0 1 9 = 19000
                burn 0 1 10 = 9500
                burn 0 1 19 = 9500
                burn 0 1 20 = 0
                burn 0 1 29 = 0
                burn 0 1 30 = 38000
                burn 0 1 364 = 38000
                burn 0 1 0 = 19000
                """);
        Runs.run("burn: a ROW of the first day and one of the last", dry + """
                burn 0 1 364 = 19000
                row 0 1 = 1
                row 364 2 = 2
                burn 0 1 0 = 190
                burn 0 1 1 = 190
                burn 0 1 363 = 190
                burn 0 1 364 = 380
                """);
        Runs.run("burn: the first and the last of 8 ROWS", dry + """
                row 1 1 = 1
                row 2 2 = 2
                row 3 3 = 3
                row 4 4 = 4
                row 5 5 = 5
                row 6 6 = 6
                row 7 7 = 7
                row 8 8 = 8
                burn 0 1 0 = 19000
                burn 0 1 1 = 190
                burn 0 1 4 = 4*190
                burn 0 1 7 = 7*190
                burn 0 1 8 = 8*190
                burn 0 1 9 = 8*190
                """);
    }
}
