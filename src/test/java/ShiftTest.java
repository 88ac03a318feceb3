/** Promises 11 to 13: scale, shift, begin. */
public final class ShiftTest {
    public static void main(String[] args) {
        edgesOfScale();
        lost();
        inAndOut();
        edgesOfShift();
        begins();
        Check.end();
    }

    private static void edgesOfScale() {
        Runs.run("scale: there is no such bin", """
                scale 0 1 = INDEX
                bin 0 10 = 0
                scale 0 1
                scale -1 1 = INDEX
                scale 1 1 = INDEX
                scale 8 1 = INDEX
                scale 2147483647 1 = INDEX
                scale -2147483648 1 = INDEX
                about 0 4 = 1
                """);
        Runs.run("scale: grams are 0 .. 10^12", """
                bin 0 10 = 0
                scale 0 -1 = ARGUMENT
                about 0 4 = NONE
                scale 0 0
                about 0 4 = 0
                scale 0 1000000000000
                about 0 4 = 1000000000000
                scale 0 1000000000001 = ARGUMENT
                scale 0 9223372036854775807 = ARGUMENT
                scale 0 -9223372036854775808 = ARGUMENT
                about 0 4 = 1000000000000
                shift 0 = -1000000000000
                """);
        Runs.run("scale: a reading beyond 32 bits is kept whole", """
                bin 0 10 = 0
                scale 0 4294967296
                about 0 4 = 4294967296
                scale 0 4294967295
                about 0 4 = 4294967295
                """);
        Runs.run("scale: IndexOutOfBoundsException is named before IllegalArgumentException", """
                scale 0 -1 = INDEX
                bin 0 10 = 0
                scale 1 1000000000001 = INDEX
                scale -1 -1 = INDEX
                """);
        Runs.run("scale: a reading does not change the bin, whatever its most is", """
                bin 0 10 = 0
                pour 0 10 250 = true
                scale 0 1000000
                about 0 0 = 7500
                about 0 1 = 2500
                about 0 2 = 10
                about 0 5 = 10000
                shift 1 = 10000
                shift 2 = 0
                carbon = 3750
                """);
    }

    private static void lost() {
        Runs.run("shift: LOST is over bins with a reading in this shift", """
                bin 0 100 = 0
                bin 1 100 = 1
                bin 2 100 = 2
                pour 0 50 500 = true
                pour 1 20 100 = true
                pour 2 90 0 = true
                shift 0 = 0
                scale 0 49000
                shift 0 = 1000
                scale 1 19500
                shift 0 = 1500
                begin
                shift 0 = 0
                scale 1 19500
                shift 0 = 500
                """);
        Runs.run("shift: LOST by the latest reading of a bin", """
                bin 0 100 = 0
                pour 0 50 500 = true
                scale 0 1
                scale 0 49999
                shift 0 = 1
                scale 0 50000
                shift 0 = 0
                """);
        Runs.run("shift: a reading of 0 is a reading", """
                bin 0 100 = 0
                pour 0 50 500 = true
                scale 0 0
                shift 0 = 50000
                """);
        Runs.run("shift: a reading above what the bin has makes LOST less, below 0 too", """
                bin 0 100 = 0
                bin 0 100 = 1
                scale 0 1
                shift 0 = -1
                pour 1 1 0 = true
                scale 1 0
                shift 0 = 999
                """);
        Runs.run("shift: LOST is by what the bin has, whatever came or went behind the reading", """
                bin 0 100 = 0
                pour 0 50 500 = true
                scale 0 50000
                pour 0 10 0 = true
                shift 0 = 10000
                burn 0 20 0 = 196674
                shift 0 = -10000
                """);
        StringBuilder all = new StringBuilder();
        for (int bin = 0; bin < 8; bin++) {
            all.append("bin 0 1 = ").append(bin).append("\nscale ").append(bin).append(" 1000000000000\n");
        }
        Runs.run("shift: LOST of eight bins and the largest readings", all + "shift 0 = -8*1000000000000");
        Runs.run("shift: the first and the last bin count", all.toString().replace("1000000000000", "0") + """
                pour 0 1 0 = true
                shift 0 = 1000
                pour 7 1 0 = true
                shift 0 = 2000
                """);
    }

    private static void inAndOut() {
        String bins = """
                bin 0 1000 = 0
                bin 0 1000 = 1
                bin 0 1000 = 2
                """;
        Runs.run("shift: IN is what was poured, water too", bins + """
                pour 0 100 500 = true
                shift 1 = 100000
                pour 1 1 1000 = true
                shift 1 = 101000
                pour 1 0 1000 = true
                pour 1 1000 0 = false
                shift 1 = 101000
                shift 2 = 0
                """);
        Runs.run("shift: IN is what a screen sent, too", bins + """
                screen 0 0 1 2 20 20
                send 0 31 7 = true
                shift 1 = 31000
                send 0 1000000 7 = false
                shift 1 = 31000
                """);
        Runs.run("shift: OUT is what was sold, burned or mixed away", bins + """
                pour 0 100 500 = true
                burn 0 10 0 = 80000
                shift 2 = 10000
                sell 0 3 0 = 0
                shift 2 = 13000
                mix 0 1 5 = true
                shift 2 = 18000
                shift 1 = 100000
                """);
        Runs.run("shift: OUT is not what was refused", bins + """
                pour 0 100 500 = true
                span 1 0 499
                mix 0 1 5 = false
                burn 0 101 0 = STATE
                sell 0 101 0 = STATE
                mix 0 1 101 = STATE
                shift 2 = 0
                """);
    }

    private static void edgesOfShift() {
        Runs.run("shift: there is no such what", """
                shift -1 = INDEX
                shift 0 = 0
                shift 3 = 0
                shift 4 = INDEX
                shift 2147483647 = INDEX
                shift -2147483648 = INDEX
                """);
        Runs.run("shift: how many shifts were begun behind the first one", """
                shift 3 = 0
                begin
                shift 3 = 1
                begin
                begin
                shift 3 = 3
                """);
    }

    private static void begins() {
        Runs.run("begin: a new SHIFT has no LOST, IN, OUT and readings", """
                bin 0 100 = 0
                pour 0 50 500 = true
                burn 0 1 0 = 8000
                scale 0 5
                begin
                shift 0 = 0
                shift 1 = 0
                shift 2 = 0
                about 0 4 = NONE
                pour 0 2 0 = true
                sell 0 1 1 = 0
                scale 0 49999
                shift 0 = 1
                shift 1 = 2000
                shift 2 = 1000
                """);
        Runs.run("begin: no reading of any of the eight bins is left", """
                bin 0 1 = 0
                bin 0 1 = 1
                bin 0 1 = 2
                bin 0 1 = 3
                bin 0 1 = 4
                bin 0 1 = 5
                bin 0 1 = 6
                bin 0 1 = 7
                scale 0 1
                scale 3 1
                scale 7 1
                begin
                about 0 4 = NONE
                about 3 4 = NONE
                about 7 4 = NONE
                """);
        Runs.run("begin: logs, bins, screens, shares, ROWS and spans stay", """
                share 0 1 2
                share 1 1 2
                log 4 0 0 = 0
                bin 1 100 = 0
                bin 1 200 = 1
                bin 1 300 = 2
                pour 0 50 500 = true
                screen 2 0 1 2 0 60
                span 1 0 0
                row 5 10 = 1
                begin
                volume 0 false = 2*63504000
                log 4 0 0 = 1
                volume 3 true = 2*63504000
                about 0 0 = 25000
                about 0 1 = 25000
                about 1 2 = 200
                about 2 3 = 1
                send 2 1 0 = true
                about 1 5 = 1000
                mix 0 1 1 = false
                pour 2 1 0 = true
                burn 2 1 4 = 19000
                burn 1 1 5 = 1900
                row 6 10 = 2
                bin 0 1 = 3
                """);
    }
}
