/** Promises 17 and 18: span, mix. */
public final class MixTest {
    public static void main(String[] args) {
        edgesOfSpan();
        ordinaryMix();
        edgesOfMix();
        withinTheSpan();
        fullTargets();
        Check.end();
    }

    private static void edgesOfSpan() {
        Runs.run("span: there is no such bin", """
                span 0 0 1000 = INDEX
                bin 0 10 = 0
                span 0 0 1000
                span -1 0 1000 = INDEX
                span 1 0 1000 = INDEX
                span 8 0 1000 = INDEX
                span 2147483647 0 1000 = INDEX
                span -2147483648 0 1000 = INDEX
                """);
        String told = "bin 0 10 = 0\nbin 0 10 = 1\npour 0 10 500 = true\nspan 1 500 500\n";
        Runs.run("span: low is not below 0", told + """
                span 1 -1 0 = ARGUMENT
                span 1 -1 -1 = ARGUMENT
                span 1 -1 1000 = ARGUMENT
                span 1 -2147483648 1000 = ARGUMENT
                mix 0 1 1 = true
                span 1 0 0
                mix 0 1 1 = false
                """);
        Runs.run("span: high is low .. 1000", told + """
                span 1 600 599 = ARGUMENT
                span 1 1 0 = ARGUMENT
                span 1 0 -1 = ARGUMENT
                span 1 0 1001 = ARGUMENT
                span 1 1000 1001 = ARGUMENT
                span 1 1001 1001 = ARGUMENT
                span 1 0 2147483647 = ARGUMENT
                span 1 0 -2147483648 = ARGUMENT
                mix 0 1 1 = true
                span 1 600 600
                mix 0 1 1 = false
                span 1 0 1000
                mix 0 1 1 = true
                span 1 1000 1000
                mix 0 1 1 = false
                """);
        Runs.run("span: IndexOutOfBoundsException is named before IllegalArgumentException", told + """
                span 2 -1 0 = INDEX
                span -1 5 4 = INDEX
                span 2 0 1001 = INDEX
                """);
    }

    private static void ordinaryMix() {
        Runs.run("mix: taken as it is BURNED, whatever their KINDS", """
                bin 0 100 = 0
                bin 3 100 = 1
                pour 0 2 1 = true
                pour 0 1 0 = true
                pour 1 10 500 = true
                mix 0 1 2 = true
                about 0 0 = 999
                about 0 1 = 1
                about 1 0 = 6999
                about 1 1 = 5001
                about 0 3 = 0
                about 1 3 = 3
                shift 2 = 2000
                shift 1 = 13000
                """);
        Runs.run("mix: all of a bin, into an empty one and back", """
                bin 0 100 = 0
                bin 0 100 = 1
                pour 0 13 321 = true
                mix 0 1 13 = true
                about 0 5 = 0
                about 1 0 = 8827
                about 1 1 = 4173
                mix 1 0 13 = true
                about 0 1 = 4173
                about 1 5 = 0
                shift 2 = 26000
                """);
    }

    private static void edgesOfMix() {
        String told = "bin 0 1000000 = 0\nbin 0 1000000 = 1\npour 0 10 500 = true\n";
        Runs.run("mix: there is no such bin", told + """
                mix -1 1 1 = INDEX
                mix 0 -1 1 = INDEX
                mix 2 1 1 = INDEX
                mix 0 2 1 = INDEX
                mix 8 1 1 = INDEX
                mix 0 8 1 = INDEX
                mix 2147483647 0 1 = INDEX
                mix 0 -2147483648 1 = INDEX
                bin 0 10 = 2
                mix 0 2 1 = true
                mix 2 1 1 = true
                """);
        Runs.run("mix: both are one", told + """
                mix 0 0 1 = ARGUMENT
                mix 0 0 10 = ARGUMENT
                mix 1 1 1 = ARGUMENT
                """);
        Runs.run("mix: kilograms are 1 .. 1000000", told + """
                mix 0 1 0 = ARGUMENT
                mix 0 1 -1 = ARGUMENT
                mix 0 1 1000001 = ARGUMENT
                mix 0 1 2147483647 = ARGUMENT
                mix 0 1 -2147483648 = ARGUMENT
                mix 0 1 1 = true
                sell 1 1 0 = 0
                pour 0 999991 0 = true
                mix 0 1 1000000 = true
                about 0 5 = 0
                about 1 1 = 4500
                about 1 0 = 999995500
                """);
        Runs.run("mix: there is not so much", told + """
                mix 0 1 11 = STATE
                mix 0 1 1000000 = STATE
                mix 0 1 9 = true
                mix 0 1 2 = STATE
                mix 0 1 1 = true
                mix 0 1 1 = STATE
                about 0 5 = 0
                """);
        Runs.run("mix: there is not so much, even if it would not be mixed", """
                bin 0 10 = 0
                bin 0 4 = 1
                pour 0 5 500 = true
                mix 0 1 6 = STATE
                mix 0 1 5 = false
                span 1 0 0
                mix 0 1 6 = STATE
                mix 0 1 4 = false
                """);
        Runs.run("mix: of several exceptions the one named first", told + """
                mix 2 2 1 = INDEX
                mix -1 -1 0 = INDEX
                mix 0 2 0 = INDEX
                mix 2 0 1000001 = INDEX
                mix 1 2 1 = INDEX
                mix 1 1 1 = ARGUMENT
                mix 0 0 11 = ARGUMENT
                mix 1 0 0 = ARGUMENT
                mix 1 0 1000001 = ARGUMENT
                mix 1 0 1 = STATE
                """);
    }

    /** Then 502000 of 1002000 grams are water there, 500.99 thousandths, cut off to 500. */
    private static String halfWater(int low, int high, boolean mixed) {
        return """
                bin 0 100 = 0
                bin 0 2000 = 1
                pour 0 2 1000 = true
                pour 1 1000 500 = true
                span 1 LOW HIGH
                mix 0 1 2 = MIXED
                about 0 1 = FIRST
                about 1 0 = 500000
                about 1 1 = OTHER
                """.replace("LOW", "" + low).replace("HIGH", "" + high).replace("MIXED", "" + mixed)
                .replace("FIRST", mixed ? "0" : "2000").replace("OTHER", mixed ? "502000" : "500000");
    }

    private static void withinTheSpan() {
        String title = "mix: the share of WATER, cut off, is within the other bin's SPAN, ";
        Runs.run(title + "just low and high", halfWater(500, 500, true));
        Runs.run(title + "just low", halfWater(500, 1000, true));
        Runs.run(title + "just high", halfWater(0, 500, true));
        Runs.run(title + "below low", halfWater(501, 1000, false));
        Runs.run(title + "above high", halfWater(0, 499, false));
        Runs.run("mix: a SPAN is 0 .. 1000 at first", """
                bin 0 10 = 0
                bin 0 10 = 1
                bin 0 10 = 2
                bin 0 10 = 3
                pour 0 10 1000 = true
                pour 1 10 0 = true
                mix 0 2 5 = true
                mix 1 3 5 = true
                about 2 1 = 5000
                about 3 0 = 5000
                """);
        Runs.run("mix: the share of WATER there then, not that before or that of what comes", """
                bin 0 100 = 0
                bin 0 100 = 1
                pour 0 10 1000 = true
                pour 1 5 0 = true
                span 1 500 500
                mix 0 1 4 = false
                mix 0 1 6 = false
                mix 0 1 5 = true
                mix 0 1 1 = false
                """);
        Runs.run("mix: into an empty bin, the share of WATER of what comes", """
                bin 0 100 = 0
                bin 0 100 = 1
                pour 0 10 333 = true
                span 1 334 1000
                mix 0 1 1 = false
                span 1 0 332
                mix 0 1 1 = false
                span 1 333 333
                mix 0 1 1 = true
                """);
        Runs.run("mix: water alone is 1000, dry wood alone is 0", """
                bin 0 10 = 0
                bin 0 10 = 1
                bin 0 10 = 2
                pour 0 10 1000 = true
                pour 1 10 0 = true
                span 2 0 999
                mix 0 2 1 = false
                span 2 1 1000
                mix 1 2 1 = false
                span 2 1000 1000
                mix 0 2 1 = true
                sell 2 1 0 = 0
                span 2 0 0
                mix 1 2 1 = true
                """);
        Runs.run("mix: the span of the bin that it is taken from says nothing", """
                bin 0 10 = 0
                bin 0 10 = 1
                pour 0 10 500 = true
                span 0 0 0
                mix 0 1 1 = true
                mix 1 0 1 = false
                """);
        Runs.run("span: it says nothing of what is poured, sent, burned or sold", """
                bin 0 10 = 0
                bin 0 10 = 1
                bin 0 10 = 2
                span 0 1000 1000
                screen 0 0 1 2 60 0
                pour 0 1 0 = true
                send 0 1 0 = true
                burn 0 1 0 = 19000
                sell 0 1 1000 = 1
                """);
        Runs.run("mix: the largest numbers do not wrap around", """
                bin 0 1000000 = 0
                bin 0 1000000 = 1
                pour 0 500000 1000 = true
                pour 1 500000 998 = true
                span 1 999 999
                mix 0 1 500000 = true
                about 1 0 = 1000000
                about 1 1 = 999000000
                span 0 999 999
                mix 1 0 1000000 = true
                about 0 1 = 999000000
                """);
    }

    private static void fullTargets() {
        Runs.run("mix: it is not more than full", """
                bin 0 1000 = 0
                bin 1 10 = 1
                pour 0 1000 250 = true
                pour 1 5 0 = true
                mix 0 1 6 = false
                mix 0 1 1000 = false
                about 0 5 = 1000000
                about 1 5 = 5000
                shift 2 = 0
                mix 0 1 5 = true
                about 1 5 = 10000
                mix 0 1 1 = false
                """);
        Runs.run("mix: more than full and out of its SPAN", """
                bin 0 10 = 0
                bin 0 1 = 1
                pour 0 10 500 = true
                span 1 0 0
                mix 0 1 2 = false
                mix 0 1 1 = false
                span 1 500 500
                mix 0 1 2 = false
                mix 0 1 1 = true
                """);
    }
}
