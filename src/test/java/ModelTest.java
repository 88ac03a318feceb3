import java.math.BigInteger;
import java.util.ArrayList;
import java.util.List;
import java.util.Random;

/**
 * All promises: runs of 512 calls, the same each time, against a plain model that keeps the history
 * and works with BigInteger, so that order, wrap-around and forgotten state would show.
 */
public final class ModelTest {
    private static final int RUNS = 600;
    private static final int[] ODD = {Integer.MIN_VALUE, -1, 0, 1, Integer.MAX_VALUE};
    private static final String[] NAMES = {"share", "log", "bin", "pour", "screen", "send", "scale", "begin", "row",
        "burn", "sell", "span", "mix", "volume", "boards", "about", "shift", "carbon"};
    /** How often each of them is called, of 100 times. */
    private static final int[] OFTEN = {3, 4, 4, 12, 4, 10, 4, 1, 2, 8, 6, 3, 8, 5, 2, 17, 5, 2};

    private final Random random;
    private final Mill real = new Mill();
    private final Model model = new Model();
    private final StringBuilder history = new StringBuilder();
    private final boolean large;

    private ModelTest(int seed) {
        random = new Random(seed);
        large = seed % 2 == 1;
    }

    public static void main(String[] args) {
        for (int seed = 0; seed < RUNS; seed++) {
            if (!new ModelTest(seed).runIsRight()) {
                break;
            }
        }
        Check.end();
    }

    private boolean runIsRight() {
        for (int call = 0; call < Mill.MOST_CALLS; call++) {
            String name = nextName();
            long[] n = numbersFor(name);
            StringBuilder row = new StringBuilder(name);
            for (int i = 0; i < n.length; i++) {
                boolean truth = i == n.length - 1 && (name.equals("volume") || name.equals("boards"));
                row.append(' ').append(truth ? "" + (n[i] == 1) : "" + n[i]);
            }
            String due = model.answerOf(name, n);
            String got = real.call(row.toString());
            history.append(row).append(" = ").append(due).append('\n');
            if (!got.equals(due)) {
                Check.report(history + "but the last one answered " + got);
                return false;
            }
        }
        return true;
    }

    private String nextName() {
        int chance = random.nextInt(100);
        int at = 0;
        while (chance >= OFTEN[at]) {
            chance -= OFTEN[at];
            at++;
        }
        return NAMES[at];
    }

    /** Mostly within low .. high, often an edge of it, sometimes one beyond or far off. */
    private int number(int low, int high) {
        int chance = random.nextInt(40);
        if (chance == 0) {
            return ODD[random.nextInt(ODD.length)];
        }
        if (chance == 1) {
            return random.nextBoolean() ? low - 1 : high + 1;
        }
        if (chance < 5) {
            return random.nextBoolean() ? low : high;
        }
        return low + random.nextInt(high - low + 1);
    }

    private int kilograms() {
        return random.nextInt(8) == 0 ? number(0, 1000000) : number(1, large ? 300000 : 40);
    }

    private int binNumber() {
        return number(0, Math.max(0, model.bins.size() - 1));
    }

    private int truth() {
        return random.nextInt(2);
    }

    private long[] numbersFor(String name) {
        switch (name) {
            case "share": return new long[] {number(0, 1), number(0, 10), number(1, 10)};
            case "log": return new long[] {number(1, 1000), number(0, 800), number(0, 800)};
            case "bin": return new long[] {number(0, random.nextInt(4)), large ? number(1, 1000000) : number(20, 200)};
            case "screen": return new long[] {number(0, 3), binNumber(), binNumber(), binNumber(), number(0, 40),
                number(0, 40)};
            case "send": return new long[] {number(0, 3), kilograms(), number(0, 1000)};
            case "scale": return new long[] {binNumber(), number(0, large ? 2000000000 : 200000) * 500L};
            case "row": return new long[] {number(0, 364), number(0, 200)};
            case "burn": return new long[] {binNumber(), kilograms(), number(0, 364)};
            case "sell": return new long[] {binNumber(), kilograms(), number(0, 1000000)};
            case "span": return new long[] {binNumber(), number(0, 600), number(400, 1000)};
            case "mix": return new long[] {binNumber(), binNumber(), kilograms()};
            case "volume": return new long[] {number(0, 3), truth()};
            case "boards": return new long[] {truth()};
            case "about": return new long[] {binNumber(), number(0, 5)};
            case "shift": return new long[] {number(0, 3)};
            case "pour": return new long[] {binNumber(), kilograms(), number(0, 1000)};
            default: return new long[0];
        }
    }

    private static BigInteger big(long n) {
        return BigInteger.valueOf(n);
    }

    private static final class ModelBin {
        int kind;
        int most;
        BigInteger dry = big(0);
        BigInteger water = big(0);
        Long reading;
        int low = 0;
        int high = 1000;

        BigInteger all() {
            return dry.add(water);
        }

        boolean holds(long kilograms) {
            return all().add(big(kilograms * 1000)).compareTo(big(most * 1000L)) <= 0;
        }
    }

    private static final class Model {
        final List<ModelBin> bins = new ArrayList<>();
        final List<BigInteger[]> logs = new ArrayList<>();
        final List<int[]> rows = new ArrayList<>();
        final int[][] screens = new int[4][];
        final int[][] shares = {{1, 10}, {1, 4}};
        final List<Long> poured = new ArrayList<>();
        final List<Long> gone = new ArrayList<>();
        int shifts = 0;

        /** As Mill.call writes it. */
        String answerOf(String name, long[] numbers) {
            int[] n = new int[numbers.length];
            for (int i = 0; i < n.length; i++) {
                n[i] = (int) numbers[i];
            }
            try {
                switch (name) {
                    case "pour": return "" + pour(n);
                    case "send": return "" + send(n);
                    case "mix": return "" + mix(n);
                    case "share": tellShare(n); return Mill.DONE;
                    case "screen": tellScreen(n); return Mill.DONE;
                    case "scale": read(n[0], numbers[1]); return Mill.DONE;
                    case "begin": beginShift(); return Mill.DONE;
                    case "span": tellSpan(n); return Mill.DONE;
                    default: return "" + number(name, n);
                }
            } catch (RuntimeException e) {
                return "throws." + e.getClass().getSimpleName();
            }
        }

        BigInteger number(String name, int[] n) {
            switch (name) {
                case "log": return big(tellLog(n));
                case "bin": return big(tellBin(n));
                case "row": return big(tellRow(n));
                case "burn": return big(burn(n));
                case "sell": return big(sell(n));
                case "volume": index(n[0], 4); return parts(n[0], n[1] == 1);
                case "boards": return parts(4, n[0] == 1);
                case "about": return about(at(n[0]), n[1]);
                case "shift": return shift(n[0]);
                default: return carbon();
            }
        }

        static void argument(boolean good) {
            if (!good) {
                throw new IllegalArgumentException();
            }
        }

        static void index(int n, int count) {
            if (n < 0 || n >= count) {
                throw new IndexOutOfBoundsException();
            }
        }

        static void state(boolean good) {
            if (!good) {
                throw new IllegalStateException();
            }
        }

        static boolean within(long n, long low, long high) {
            return low <= n && n <= high;
        }

        ModelBin at(int n) {
            index(n, bins.size());
            return bins.get(n);
        }

        void tellShare(int[] n) {
            index(n[0], 2);
            argument(within(n[2], 1, 10) && within(n[1], 0, n[2]));
            shares[n[0]] = new int[] {n[1], n[2]};
        }

        static BigInteger part(BigInteger of, int[] share) {
            BigInteger[] parts = of.multiply(big(share[0])).divideAndRemainder(big(share[1]));
            if (parts[1].signum() != 0) {
                Check.report("a part is not whole");
            }
            return parts[0];
        }

        long tellLog(int[] n) {
            argument(within(n[0], 1, 1000) && n[1] >= 0 && n[2] >= 0);
            BigInteger whole = big(n[0]).multiply(big(2520)).multiply(big(25200));
            BigInteger bark = part(whole, shares[0]);
            BigInteger boards = big(n[1]).multiply(big(25200));
            BigInteger dust = big(n[2]).multiply(big(25200));
            BigInteger left = whole.subtract(bark).subtract(boards).subtract(dust);
            argument(left.signum() >= 0);
            BigInteger offcuts = part(left, shares[1]);
            logs.add(new BigInteger[] {bark, left.subtract(offcuts), dust, offcuts, boards});
            return logs.size() - 1;
        }

        long tellBin(int[] n) {
            index(n[0], 4);
            argument(within(n[1], 1, 1000000));
            state(bins.size() < 8);
            ModelBin bin = new ModelBin();
            bin.kind = n[0];
            bin.most = n[1];
            bins.add(bin);
            return bins.size() - 1;
        }

        void fill(ModelBin bin, long kilograms, long water) {
            bin.water = bin.water.add(big(kilograms * water));
            bin.dry = bin.dry.add(big(kilograms * (1000 - water)));
            poured.add(kilograms * 1000);
        }

        boolean pour(int[] n) {
            ModelBin bin = at(n[0]);
            argument(within(n[1], 0, 1000000) && within(n[2], 0, 1000));
            if (!bin.holds(n[1])) {
                return false;
            }
            fill(bin, n[1], n[2]);
            return true;
        }

        void tellScreen(int[] n) {
            index(n[0], 4);
            ModelBin[] outs = {at(n[1]), at(n[2]), at(n[3])};
            long third = 60L - n[4] - n[5];
            argument(n[1] != n[2] && n[1] != n[3] && n[2] != n[3]);
            argument(outs[0].kind == outs[1].kind && outs[1].kind == outs[2].kind);
            argument(n[4] >= 0 && n[5] >= 0 && third >= 0);
            screens[n[0]] = new int[] {n[1], n[2], n[3], n[4], n[5], (int) third};
        }

        boolean send(int[] n) {
            index(n[0], 4);
            argument(within(n[1], 0, 1000000) && within(n[2], 0, 1000));
            int[] screen = screens[n[0]];
            state(screen != null);
            long[] parts = new long[3];
            long left = n[1];
            for (int k = 0; k < 3; k++) {
                parts[k] = (long) n[1] * screen[3 + k] / 60;
                left -= parts[k];
            }
            parts[0] += left;
            for (int k = 0; k < 3; k++) {
                if (!at(screen[k]).holds(parts[k])) {
                    return false;
                }
            }
            for (int k = 0; k < 3; k++) {
                fill(at(screen[k]), parts[k], n[2]);
            }
            return true;
        }

        void read(int number, long grams) {
            ModelBin bin = at(number);
            argument(within(grams, 0, 1000000000000L));
            bin.reading = grams;
        }

        void beginShift() {
            for (ModelBin bin : bins) {
                bin.reading = null;
            }
            poured.clear();
            gone.clear();
            shifts++;
        }

        long tellRow(int[] n) {
            argument(within(n[0], 0, 364) && within(n[1], 0, 200));
            argument(rows.isEmpty() || rows.get(rows.size() - 1)[0] < n[0]);
            state(rows.size() < 8);
            rows.add(n);
            return rows.size();
        }

        /** WATER and DRY of what is taken. */
        static BigInteger[] portion(ModelBin bin, int kilograms) {
            BigInteger grams = big(kilograms).multiply(big(1000));
            state(bin.all().compareTo(grams) >= 0);
            BigInteger water = bin.water.multiply(grams).divide(bin.all());
            return new BigInteger[] {water, grams.subtract(water)};
        }

        void take(ModelBin bin, BigInteger[] portion) {
            bin.water = bin.water.subtract(portion[0]);
            bin.dry = bin.dry.subtract(portion[1]);
            gone.add(portion[0].add(portion[1]).longValueExact());
        }

        long burn(int[] n) {
            ModelBin bin = at(n[0]);
            argument(within(n[1], 1, 1000000) && within(n[2], 0, 364));
            BigInteger[] taken = portion(bin, n[1]);
            take(bin, taken);
            int percent = 100;
            for (int i = rows.size() - 1; i >= 0; i--) {
                if (rows.get(i)[0] <= n[2]) {
                    percent = rows.get(i)[1];
                    break;
                }
            }
            BigInteger heat = taken[1].multiply(big(19)).subtract(taken[0].multiply(big(3)));
            return heat.multiply(big(percent)).divide(big(100)).max(big(0)).longValueExact();
        }

        long sell(int[] n) {
            ModelBin bin = at(n[0]);
            argument(within(n[1], 1, 1000000) && within(n[2], 0, 1000000));
            BigInteger[] taken = portion(bin, n[1]);
            take(bin, taken);
            return taken[1].multiply(big(n[2])).divide(big(1000000)).longValueExact();
        }

        void tellSpan(int[] n) {
            ModelBin bin = at(n[0]);
            argument(n[1] >= 0 && within(n[2], n[1], 1000));
            bin.low = n[1];
            bin.high = n[2];
        }

        boolean mix(int[] n) {
            ModelBin from = at(n[0]);
            ModelBin to = at(n[1]);
            argument(n[0] != n[1] && within(n[2], 1, 1000000));
            BigInteger[] taken = portion(from, n[2]);
            BigInteger water = to.water.add(taken[0]);
            BigInteger all = to.all().add(taken[0]).add(taken[1]);
            long thousandths = water.multiply(big(1000)).divide(all).longValueExact();
            if (!within(thousandths, to.low, to.high) || !to.holds(n[2])) {
                return false;
            }
            take(from, taken);
            to.water = water;
            to.dry = to.dry.add(taken[1]);
            return true;
        }

        static BigInteger sum(List<Long> numbers) {
            BigInteger sum = big(0);
            for (long number : numbers) {
                sum = sum.add(big(number));
            }
            return sum;
        }

        BigInteger parts(int part, boolean all) {
            state(!logs.isEmpty());
            BigInteger sum = big(0);
            for (int i = all ? 0 : logs.size() - 1; i < logs.size(); i++) {
                sum = sum.add(logs.get(i)[part]);
            }
            return sum;
        }

        BigInteger about(ModelBin bin, int what) {
            index(what, 6);
            BigInteger reading = big(bin.reading == null ? -1 : bin.reading);
            return new BigInteger[] {bin.dry, bin.water, big(bin.most), big(bin.kind), reading, bin.all()}[what];
        }

        BigInteger shift(int what) {
            index(what, 4);
            BigInteger lost = big(0);
            for (ModelBin bin : bins) {
                lost = bin.reading == null ? lost : lost.add(bin.all()).subtract(big(bin.reading));
            }
            return new BigInteger[] {lost, sum(poured), sum(gone), big(shifts)}[what];
        }

        BigInteger carbon() {
            BigInteger dry = big(0);
            for (ModelBin bin : bins) {
                dry = dry.add(bin.dry);
            }
            return dry.divide(big(2));
        }
    }
}
