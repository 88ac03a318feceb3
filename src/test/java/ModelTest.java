import java.math.BigInteger;
import java.util.ArrayList;
import java.util.List;
import java.util.Random;

/**
 * All promises: runs of 512 calls, the same each time, against a plain model that keeps the history
 * and works with BigInteger, so that order, wrap-around and forgotten state would show.
 */
public final class ModelTest {
    private static final int RUNS = 100;
    private static final int CALLS = 512;
    private static final int[] ODD = {Integer.MIN_VALUE, -1, 0, 1, Integer.MAX_VALUE};

    private final Random random;
    private final ResidueFlows real = new ResidueFlows();
    private final Model model = new Model();
    private final StringBuilder history = new StringBuilder();
    private final boolean large;

    private ModelTest(int seed) {
        random = new Random(seed);
        large = seed % 2 == 1;
    }

    public static void main(String[] args) {
        for (int seed = 0; seed < RUNS; seed++) {
            if (!new ModelTest(seed).runIsRight()) {
                break;
            }
        }
        Check.end();
    }

    private boolean runIsRight() {
        for (int call = 0; call < CALLS; call++) {
            String before = Check.stateOf(real);
            String[] answers = oneCall();
            String after = Check.stateOf(real);
            boolean right = answers[0].equals(answers[1]) && after.equals(model.state())
                    && (!answers[0].startsWith("throws.") || after.equals(before));
            if (!right) {
                Check.report(history + "\nanswered " + answers[0] + ", due is " + answers[1]
                        + "\n  got " + after + "\n  due " + model.state());
                return false;
            }
        }
        return true;
    }

    /** Mostly within low .. high, often an edge of it, sometimes one beyond or far off. */
    private int number(int low, int high) {
        int chance = random.nextInt(40);
        if (chance == 0) {
            return ODD[random.nextInt(ODD.length)];
        }
        if (chance == 1) {
            return random.nextBoolean() ? low - 1 : high + 1;
        }
        if (chance < 5) {
            return random.nextBoolean() ? low : high;
        }
        return low + random.nextInt(high - low + 1);
    }

    private int kilograms() {
        return random.nextInt(8) == 0 ? number(0, 1000000) : number(1, large ? 300000 : 40);
    }

    private int binNumber() {
        return number(0, Math.max(0, model.bins.size() - 1));
    }

    private String[] oneCall() {
        int which = random.nextInt(16);
        int[] n = new int[6];
        switch (which) {
            case 0: n = new int[] {number(0, 1), number(0, 10), number(1, 10)}; break;
            case 1: n = new int[] {number(1, 1000), number(0, 800), number(0, 800)}; break;
            case 2: n = new int[] {number(0, random.nextInt(4)), large ? number(1, 1000000) : number(20, 200)}; break;
            case 3: case 4: n = new int[] {binNumber(), kilograms(), number(0, 1000)}; break;
            case 5: n = new int[] {number(0, 3), binNumber(), binNumber(), binNumber(), number(0, 40), number(0, 40)};
                break;
            case 6: case 7: n = new int[] {number(0, 3), kilograms(), number(0, 1000)}; break;
            case 8: n = new int[] {binNumber(), number(0, large ? 2000000000 : 200000)}; break;
            case 9: n = new int[] {random.nextInt(10)}; break;
            case 10: n = new int[] {number(0, 364), number(0, 200)}; break;
            case 11: case 12: n = new int[] {binNumber(), kilograms(), number(0, 364)}; break;
            case 13: n = new int[] {binNumber(), kilograms(), number(0, 1000000)}; break;
            case 14: n = new int[] {binNumber(), number(0, 600), number(400, 1000)}; break;
            default: n = new int[] {binNumber(), binNumber(), kilograms()}; break;
        }
        int[] at = n;
        history.append(which).append(java.util.Arrays.toString(n)).append(' ');
        return new String[] {Check.answerOf(() -> ofReal(which, at)), Check.answerOf(() -> model.call(which, at))};
    }

    private static long bit(boolean answer) {
        return answer ? 1 : 0;
    }

    private long ofReal(int which, int[] n) {
        switch (which) {
            case 0: real.share(n[0], n[1], n[2]); return 0;
            case 1: return real.log(n[0], n[1], n[2]);
            case 2: return real.bin(n[0], n[1]);
            case 3: case 4: return bit(real.pour(n[0], n[1], n[2]));
            case 5: real.screen(n[0], n[1], n[2], n[3], n[4], n[5]); return 0;
            case 6: case 7: return bit(real.send(n[0], n[1], n[2]));
            case 8: real.scale(n[0], n[1] * 500L); return 0;
            case 9: if (n[0] == 0) { real.begin(); } return 0;
            case 10: return real.row(n[0], n[1]);
            case 11: case 12: return real.burn(n[0], n[1], n[2]);
            case 13: return real.sell(n[0], n[1], n[2]);
            case 14: real.span(n[0], n[1], n[2]); return 0;
            default: return bit(real.mix(n[0], n[1], n[2]));
        }
    }

    private static BigInteger big(long n) {
        return BigInteger.valueOf(n);
    }

    private static final class ModelBin {
        int kind;
        int most;
        BigInteger dry = big(0);
        BigInteger water = big(0);
        Long reading;
        int low = 0;
        int high = 1000;

        BigInteger all() {
            return dry.add(water);
        }

        boolean holds(long kilograms) {
            return all().add(big(kilograms * 1000)).compareTo(big(most * 1000L)) <= 0;
        }
    }

    private static final class Model {
        final List<ModelBin> bins = new ArrayList<>();
        final List<BigInteger[]> logs = new ArrayList<>();
        final List<int[]> rows = new ArrayList<>();
        final int[][] screens = new int[4][];
        final int[][] shares = {{1, 10}, {1, 4}};
        final List<Long> poured = new ArrayList<>();
        final List<Long> gone = new ArrayList<>();
        int shifts = 0;

        long call(int which, int[] n) {
            switch (which) {
                case 0: return tellShare(n);
                case 1: return tellLog(n);
                case 2: return tellBin(n);
                case 3: case 4: return pour(n);
                case 5: return tellScreen(n);
                case 6: case 7: return send(n);
                case 8: return read(n);
                case 9: return n[0] == 0 ? beginShift() : 0;
                case 10: return tellRow(n);
                case 11: case 12: return burn(n);
                case 13: return sell(n);
                case 14: return tellSpan(n);
                default: return mix(n);
            }
        }

        static void argument(boolean good) {
            if (!good) {
                throw new IllegalArgumentException();
            }
        }

        static void index(int n, int count) {
            if (n < 0 || n >= count) {
                throw new IndexOutOfBoundsException();
            }
        }

        static void state(boolean good) {
            if (!good) {
                throw new IllegalStateException();
            }
        }

        static boolean within(long n, long low, long high) {
            return low <= n && n <= high;
        }

        ModelBin at(int n) {
            index(n, bins.size());
            return bins.get(n);
        }

        long tellShare(int[] n) {
            index(n[0], 2);
            argument(within(n[2], 1, 10) && within(n[1], 0, n[2]));
            shares[n[0]] = new int[] {n[1], n[2]};
            return 0;
        }

        static BigInteger part(BigInteger of, int[] share) {
            BigInteger[] parts = of.multiply(big(share[0])).divideAndRemainder(big(share[1]));
            if (parts[1].signum() != 0) {
                Check.report("a part is not whole");
            }
            return parts[0];
        }

        long tellLog(int[] n) {
            argument(within(n[0], 1, 1000) && n[1] >= 0 && n[2] >= 0);
            BigInteger whole = big(n[0]).multiply(big(2520)).multiply(big(25200));
            BigInteger bark = part(whole, shares[0]);
            BigInteger boards = big(n[1]).multiply(big(25200));
            BigInteger dust = big(n[2]).multiply(big(25200));
            BigInteger left = whole.subtract(bark).subtract(boards).subtract(dust);
            argument(left.signum() >= 0);
            BigInteger offcuts = part(left, shares[1]);
            logs.add(new BigInteger[] {bark, left.subtract(offcuts), dust, offcuts, boards});
            return logs.size() - 1;
        }

        long tellBin(int[] n) {
            index(n[0], 4);
            argument(within(n[1], 1, 1000000));
            state(bins.size() < 8);
            ModelBin bin = new ModelBin();
            bin.kind = n[0];
            bin.most = n[1];
            bins.add(bin);
            return bins.size() - 1;
        }

        void fill(ModelBin bin, long kilograms, long water) {
            bin.water = bin.water.add(big(kilograms * water));
            bin.dry = bin.dry.add(big(kilograms * (1000 - water)));
            poured.add(kilograms * 1000);
        }

        long pour(int[] n) {
            ModelBin bin = at(n[0]);
            argument(within(n[1], 0, 1000000) && within(n[2], 0, 1000));
            if (!bin.holds(n[1])) {
                return 0;
            }
            fill(bin, n[1], n[2]);
            return 1;
        }

        long tellScreen(int[] n) {
            index(n[0], 4);
            ModelBin[] outs = {at(n[1]), at(n[2]), at(n[3])};
            long third = 60L - n[4] - n[5];
            argument(n[1] != n[2] && n[1] != n[3] && n[2] != n[3]);
            argument(outs[0].kind == outs[1].kind && outs[1].kind == outs[2].kind);
            argument(n[4] >= 0 && n[5] >= 0 && third >= 0);
            screens[n[0]] = new int[] {n[1], n[2], n[3], n[4], n[5], (int) third};
            return 0;
        }

        long send(int[] n) {
            index(n[0], 4);
            argument(within(n[1], 0, 1000000) && within(n[2], 0, 1000));
            int[] screen = screens[n[0]];
            state(screen != null);
            long[] parts = new long[3];
            long left = n[1];
            for (int k = 0; k < 3; k++) {
                parts[k] = (long) n[1] * screen[3 + k] / 60;
                left -= parts[k];
            }
            parts[0] += left;
            for (int k = 0; k < 3; k++) {
                if (!at(screen[k]).holds(parts[k])) {
                    return 0;
                }
            }
            for (int k = 0; k < 3; k++) {
                fill(at(screen[k]), parts[k], n[2]);
            }
            return 1;
        }

        long read(int[] n) {
            ModelBin bin = at(n[0]);
            argument(within(n[1] * 500L, 0, 1000000000000L));
            bin.reading = n[1] * 500L;
            return 0;
        }

        long beginShift() {
            for (ModelBin bin : bins) {
                bin.reading = null;
            }
            poured.clear();
            gone.clear();
            shifts++;
            return 0;
        }

        long tellRow(int[] n) {
            argument(within(n[0], 0, 364) && within(n[1], 0, 200));
            argument(rows.isEmpty() || rows.get(rows.size() - 1)[0] < n[0]);
            state(rows.size() < 8);
            rows.add(n);
            return rows.size();
        }

        /** WATER and DRY of what is taken. */
        static BigInteger[] portion(ModelBin bin, int kilograms) {
            BigInteger grams = big(kilograms).multiply(big(1000));
            state(bin.all().compareTo(grams) >= 0);
            BigInteger water = bin.water.multiply(grams).divide(bin.all());
            return new BigInteger[] {water, grams.subtract(water)};
        }

        void take(ModelBin bin, BigInteger[] portion) {
            bin.water = bin.water.subtract(portion[0]);
            bin.dry = bin.dry.subtract(portion[1]);
            gone.add(portion[0].add(portion[1]).longValueExact());
        }

        long burn(int[] n) {
            ModelBin bin = at(n[0]);
            argument(within(n[1], 1, 1000000) && within(n[2], 0, 364));
            BigInteger[] taken = portion(bin, n[1]);
            take(bin, taken);
            int percent = 100;
            for (int i = rows.size() - 1; i >= 0; i--) {
                if (rows.get(i)[0] <= n[2]) {
                    percent = rows.get(i)[1];
                    break;
                }
            }
            BigInteger heat = taken[1].multiply(big(19)).subtract(taken[0].multiply(big(3)));
            return heat.multiply(big(percent)).divide(big(100)).max(big(0)).longValueExact();
        }

        long sell(int[] n) {
            ModelBin bin = at(n[0]);
            argument(within(n[1], 1, 1000000) && within(n[2], 0, 1000000));
            BigInteger[] taken = portion(bin, n[1]);
            take(bin, taken);
            return taken[1].multiply(big(n[2])).divide(big(1000000)).longValueExact();
        }

        long tellSpan(int[] n) {
            ModelBin bin = at(n[0]);
            argument(n[1] >= 0 && within(n[2], n[1], 1000));
            bin.low = n[1];
            bin.high = n[2];
            return 0;
        }

        long mix(int[] n) {
            ModelBin from = at(n[0]);
            ModelBin to = at(n[1]);
            argument(n[0] != n[1] && within(n[2], 1, 1000000));
            BigInteger[] taken = portion(from, n[2]);
            BigInteger water = to.water.add(taken[0]);
            BigInteger all = to.all().add(taken[0]).add(taken[1]);
            long thousandths = water.multiply(big(1000)).divide(all).longValueExact();
            if (!within(thousandths, to.low, to.high) || !to.holds(n[2])) {
                return 0;
            }
            take(from, taken);
            to.water = water;
            to.dry = to.dry.add(taken[1]);
            return 1;
        }

        static long sum(List<Long> numbers) {
            long sum = 0;
            for (long number : numbers) {
                sum += number;
            }
            return sum;
        }

        String partsOf(boolean all) {
            StringBuilder text = new StringBuilder();
            for (int part = 0; part < 5; part++) {
                BigInteger sum = big(0);
                for (int i = all ? 0 : logs.size() - 1; i >= 0 && i < logs.size(); i++) {
                    sum = sum.add(logs.get(i)[part]);
                }
                text.append(logs.isEmpty() ? "throws.IllegalStateException" : sum.toString()).append(' ');
            }
            return text.toString();
        }

        /** As Check.stateOf writes it. */
        String state() {
            StringBuilder text = new StringBuilder(partsOf(false)).append(partsOf(true));
            BigInteger dry = big(0);
            BigInteger lost = big(0);
            for (int i = 0; i < 8; i++) {
                text.append("| ");
                if (i >= bins.size()) {
                    text.append("throws.IndexOutOfBoundsException ".repeat(6));
                    continue;
                }
                ModelBin bin = bins.get(i);
                dry = dry.add(bin.dry);
                long reading = bin.reading == null ? -1 : bin.reading;
                lost = bin.reading == null ? lost : lost.add(bin.all()).subtract(big(reading));
                text.append(bin.dry).append(' ').append(bin.water).append(' ').append(bin.most).append(' ')
                        .append(bin.kind).append(' ').append(reading).append(' ').append(bin.all()).append(' ');
            }
            text.append("| ").append(lost).append(' ').append(sum(poured)).append(' ').append(sum(gone)).append(' ');
            return text.append(shifts).append(' ').append(dry.divide(big(2))).toString();
        }
    }
}
