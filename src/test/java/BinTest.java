/** Promises 6 to 8: bin, pour, about. */
public final class BinTest {
    public static void main(String[] args) {
        edgesOfBin();
        ordinaryPours();
        edgesOfPour();
        fullBins();
        edgesOfAbout();
        theEighthBin();
        Check.end();
    }

    private static void edgesOfBin() {
        Runs.run("bin: a KIND is 0 .. 3", """
                bin -1 5 = INDEX
                bin 0 5 = 0
                bin 3 5 = 1
                bin 4 5 = INDEX
                bin 2147483647 5 = INDEX
                bin -2147483648 5 = INDEX
                about 0 3 = 0
                about 1 3 = 3
                """);
        Runs.run("bin: most is 1 .. 1000000", """
                bin 0 0 = ARGUMENT
                bin 0 1 = 0
                bin 1 1000000 = 1
                bin 1 1000001 = ARGUMENT
                bin 1 -1 = ARGUMENT
                bin 1 2147483647 = ARGUMENT
                bin 1 -2147483648 = ARGUMENT
                about 0 2 = 1
                about 1 2 = 1000000
                """);
        Runs.run("bin: there are 8, and a ninth has no room", """
                bin 0 1 = 0
                bin 1 2 = 1
                bin 2 3 = 2
                bin 3 4 = 3
                bin 0 5 = 4
                bin 1 6 = 5
                bin 2 7 = 6
                bin 3 8 = 7
                bin 0 9 = STATE
                about 0 2 = 1
                about 4 2 = 5
                about 4 3 = 0
                about 7 2 = 8
                about 7 3 = 3
                about 8 2 = INDEX
                """);
        Runs.run("bin: of several exceptions the one named first", """
                bin 4 0 = INDEX
                bin -1 1000001 = INDEX
                bin 0 1 = 0
                bin 0 1 = 1
                bin 0 1 = 2
                bin 0 1 = 3
                bin 0 1 = 4
                bin 0 1 = 5
                bin 0 1 = 6
                bin 0 1 = 7
                bin 4 1 = INDEX
                bin 4 0 = INDEX
                bin 0 0 = ARGUMENT
                bin 0 1000001 = ARGUMENT
                bin 0 1 = STATE
                """);
        Runs.run("bin: its number; one that throws is none", """
                bin 4 5 = INDEX
                bin 0 0 = ARGUMENT
                bin 0 5 = 0
                bin -1 5 = INDEX
                bin 0 1000001 = ARGUMENT
                bin 0 5 = 1
                """);
    }

    private static void ordinaryPours() {
        Runs.run("pour: WATER grows by kilograms * w grams, DRY by kilograms * (1000 - w)", """
                bin 2 100 = 0
                bin 2 100 = 1
                pour 0 7 333 = true
                about 0 0 = 4669
                about 0 1 = 2331
                pour 0 3 999 = true
                pour 0 2 1 = true
                about 0 0 = 6670
                about 0 1 = 5330
                about 0 5 = 12000
                about 1 5 = 0
                shift 1 = 12000
                """);
    }

    private static void edgesOfPour() {
        Runs.run("pour: there is no such bin", """
                pour -1 1 1 = INDEX
                pour 0 1 1 = INDEX
                bin 0 10 = 0
                pour 0 1 1 = true
                pour 1 1 1 = INDEX
                bin 0 10 = 1
                pour 1 1 1 = true
                pour 2 0 0 = INDEX
                pour 8 1 1 = INDEX
                pour 2147483647 1 1 = INDEX
                pour -2147483648 1 1 = INDEX
                """);
        Runs.run("pour: kilograms are 0 .. 1000000", """
                bin 0 1000000 = 0
                pour 0 -1 0 = ARGUMENT
                pour 0 0 0 = true
                about 0 5 = 0
                pour 0 1000000 0 = true
                about 0 0 = 1000000000
                pour 0 1000001 0 = ARGUMENT
                pour 0 2147483647 0 = ARGUMENT
                pour 0 -2147483648 0 = ARGUMENT
                """);
        Runs.run("pour: water is 0 .. 1000", """
                bin 0 100 = 0
                pour 0 1 -1 = ARGUMENT
                pour 0 1 0 = true
                about 0 0 = 1000
                about 0 1 = 0
                pour 0 2 1000 = true
                about 0 0 = 1000
                about 0 1 = 2000
                pour 0 1 1001 = ARGUMENT
                pour 0 1 2147483647 = ARGUMENT
                pour 0 1 -2147483648 = ARGUMENT
                pour 0 0 1001 = ARGUMENT
                """);
        Runs.run("pour: IndexOutOfBoundsException is named before IllegalArgumentException", """
                pour 0 -1 0 = INDEX
                bin 0 10 = 0
                pour 1 1000001 0 = INDEX
                pour -1 1 1001 = INDEX
                """);
        Runs.run("pour: kilograms or water that are not as said throw, even if the bin is full", """
                bin 0 1 = 0
                pour 0 1 0 = true
                pour 0 1000001 0 = ARGUMENT
                pour 0 1 1001 = ARGUMENT
                pour 0 1000000 1000 = false
                """);
    }

    private static void fullBins() {
        Runs.run("pour: whatever would make it more than full is not poured at all", """
                bin 0 10 = 0
                pour 0 11 0 = false
                about 0 5 = 0
                shift 1 = 0
                pour 0 1000000 500 = false
                pour 0 9 500 = true
                pour 0 2 500 = false
                about 0 5 = 9000
                pour 0 1 500 = true
                about 0 5 = 10000
                pour 0 1 0 = false
                pour 0 1 1000 = false
                about 0 0 = 5000
                about 0 1 = 5000
                shift 1 = 10000
                """);
        Runs.run("pour: nothing does not make a full bin more than full", """
                bin 0 1 = 0
                pour 0 1 1000 = true
                pour 0 0 0 = true
                pour 0 0 1000 = true
                about 0 5 = 1000
                """);
        Runs.run("pour: the largest bin, full of water", """
                bin 0 1000000 = 0
                pour 0 1000000 1000 = true
                about 0 0 = 0
                about 0 1 = 1000000000
                pour 0 1 1000 = false
                pour 0 1000000 1000 = false
                """);
        Runs.run("pour: what was taken away leaves room", """
                bin 0 10 = 0
                pour 0 10 500 = true
                sell 0 3 0 = 0
                pour 0 4 500 = false
                pour 0 3 500 = true
                about 0 5 = 10000
                """);
    }

    private static void edgesOfAbout() {
        Runs.run("about: DRY (0), WATER (1), most (2), KIND (3), the latest reading (4), all grams (5)", """
                bin 3 77 = 0
                bin 1 88 = 1
                pour 1 5 100 = true
                scale 1 4321
                about 1 0 = 4500
                about 1 1 = 500
                about 1 2 = 88
                about 1 3 = 1
                about 1 4 = 4321
                about 1 5 = 5000
                """);
        Runs.run("about: an empty bin", """
                bin 3 77 = 0
                about 0 0 = 0
                about 0 1 = 0
                about 0 2 = 77
                about 0 3 = 3
                about 0 4 = NONE
                about 0 5 = 0
                """);
        Runs.run("about: there is no such what", """
                bin 0 10 = 0
                about 0 -1 = INDEX
                about 0 6 = INDEX
                about 0 2147483647 = INDEX
                about 0 -2147483648 = INDEX
                """);
        Runs.run("about: there is no such bin", """
                about 0 0 = INDEX
                about 0 6 = INDEX
                bin 0 10 = 0
                about 0 0 = 0
                about -1 0 = INDEX
                about 1 2 = INDEX
                about 8 2 = INDEX
                about 2147483647 0 = INDEX
                about -2147483648 0 = INDEX
                """);
        Runs.run("about: the latest reading of this shift, NONE without one", """
                bin 0 10 = 0
                about 0 4 = NONE
                scale 0 5
                scale 0 0
                about 0 4 = 0
                scale 0 10*100000000000
                about 0 4 = 10*100000000000
                begin
                about 0 4 = NONE
                """);
    }

    private static void theEighthBin() {
        StringBuilder eight = new StringBuilder();
        for (int bin = 0; bin < 8; bin++) {
            eight.append("bin 1 10 = ").append(bin).append('\n');
        }
        Runs.run("BINS 0 .. 7: the eighth is there for every call, a ninth for none", eight + """
                pour 7 10 0 = true
                pour 8 10 0 = INDEX
                about 7 0 = 10000
                about 8 0 = INDEX
                scale 7 9000
                scale 8 9000 = INDEX
                shift 0 = 1000
                burn 7 1 0 = 19000
                burn 8 1 0 = INDEX
                sell 7 1 1000 = 1
                sell 8 1 1000 = INDEX
                mix 7 0 2 = true
                mix 8 0 2 = INDEX
                mix 0 7 1 = true
                mix 0 8 1 = INDEX
                span 7 1 1
                span 8 1 1 = INDEX
                mix 0 7 1 = false
                screen 0 5 6 7 20 20
                screen 0 5 6 8 20 20 = INDEX
                screen 0 7 5 6 60 0
                screen 0 8 5 6 60 0 = INDEX
                screen 0 5 7 6 0 60
                screen 0 5 8 6 0 60 = INDEX
                send 0 3 0 = true
                about 7 5 = 10000
                carbon = 5500
                """);
    }
}
