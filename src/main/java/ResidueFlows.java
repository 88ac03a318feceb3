/**
 * What a saw mill leaves: volumes of logs in FINE parts, bins of dry wood and water in grams,
 * screens, shifts with their scales and losses, a boiler, sales, mixing and carbon.
 */
public final class ResidueFlows {
    public static final int NONE = -1;
    public static final int BARK = 0, CHIPS = 1, DUST = 2, OFFCUTS = 3;

    private static final int KINDS = 4;
    private static final int MOST_BINS = 8;
    private static final int MOST_SCREENS = 4;
    private static final int SIXTIETHS = 60;
    private static final int MOST_ROWS = 8;
    private static final int DAYS = 365;
    private static final int MOST_PERCENT = 200;
    private static final int MOST_BELOW = 10;
    private static final int MOST_VOLUME = 1000;
    private static final int MOST_KILOGRAMS = 1000000;
    private static final int MOST_CENTS = 1000000;
    private static final int THOUSAND = 1000;
    private static final long GRAMS_A_TON = 1000000L;
    private static final long MOST_READING = 1000000000000L;
    private static final long FINE = 63504000L;
    private static final long FINE_A_2520TH = 25200L;
    private static final long HEAT_OF_DRY = 19L;
    private static final long HEAT_OF_WATER = 3L;

    private final Share barkShare;
    private final Share offcutsShare;
    private final Parts latest;
    private final Parts total;
    private int logs;
    private final Bin[] bins;
    private int binCount;
    private final Screen[] screens;
    private final Boiler boiler;
    private long gramsIn;
    private long gramsOut;
    private int shiftsBegun;

    public ResidueFlows() {
        barkShare = new Share(1, 10);
        offcutsShare = new Share(1, 4);
        latest = new Parts();
        total = new Parts();
        bins = new Bin[MOST_BINS];
        for (int i = 0; i < MOST_BINS; i++) {
            bins[i] = new Bin();
        }
        screens = new Screen[MOST_SCREENS];
        for (int i = 0; i < MOST_SCREENS; i++) {
            screens[i] = new Screen();
        }
        boiler = new Boiler();
    }

    public void share(int what, int above, int below)
            throws IndexOutOfBoundsException, IllegalArgumentException {
        if (what < 0 || what > 1) {
            throw new IndexOutOfBoundsException("no such share");
        }
        if (below < 1 || below > MOST_BELOW || above < 0 || above > below) {
            throw new IllegalArgumentException("not a share");
        }
        Share told = what == 0 ? barkShare : offcutsShare;
        told.above = above;
        told.below = below;
    }

    public int log(int volume, int boards, int kerf) throws IllegalArgumentException {
        if (volume < 1 || volume > MOST_VOLUME || boards < 0 || kerf < 0) {
            throw new IllegalArgumentException("not a log");
        }
        long whole = volume * FINE;
        long bark = barkShare.of(whole);
        long boardParts = boards * FINE_A_2520TH;
        long dust = kerf * FINE_A_2520TH;
        long left = whole - bark - boardParts - dust;
        if (left < 0) {
            throw new IllegalArgumentException("boards and kerf are more than the log");
        }
        latest.tell(bark, dust, left, offcutsShare.of(left), boardParts);
        total.add(latest);
        int number = logs;
        logs++;
        return number;
    }

    public long volume(int kind, boolean all) throws IndexOutOfBoundsException, IllegalStateException {
        checkKind(kind);
        checkLogs();
        return all ? total.ofKind(kind) : latest.ofKind(kind);
    }

    public long boards(boolean all) throws IllegalStateException {
        checkLogs();
        return all ? total.boardParts : latest.boardParts;
    }

    public int bin(int kind, int most)
            throws IndexOutOfBoundsException, IllegalArgumentException, IllegalStateException {
        checkKind(kind);
        if (most < 1 || most > MOST_KILOGRAMS) {
            throw new IllegalArgumentException("not what a bin can hold");
        }
        if (binCount >= MOST_BINS) {
            throw new IllegalStateException("no room for a bin more");
        }
        int number = binCount;
        bins[number].kind = kind;
        bins[number].most = most;
        binCount++;
        return number;
    }

    public boolean pour(int bin, int kilograms, int water)
            throws IndexOutOfBoundsException, IllegalArgumentException {
        Bin into = binAt(bin);
        checkPoured(kilograms, water);
        if (!into.hasRoom(kilograms)) {
            return false;
        }
        pourInto(into, kilograms, water);
        return true;
    }

    public long about(int bin, int what) throws IndexOutOfBoundsException {
        Bin of = binAt(bin);
        switch (what) {
            case 0:
                return of.dry;
            case 1:
                return of.water;
            case 2:
                return of.most;
            case 3:
                return of.kind;
            case 4:
                return of.reading;
            case 5:
                return of.grams();
            default:
                throw new IndexOutOfBoundsException("nothing such is told of a bin");
        }
    }

    public void screen(int screen, int bin0, int bin1, int bin2, int a0, int a1)
            throws IndexOutOfBoundsException, IllegalArgumentException {
        Screen told = screenAt(screen);
        Bin first = binAt(bin0);
        Bin second = binAt(bin1);
        Bin third = binAt(bin2);
        if (bin0 == bin1 || bin0 == bin2 || bin1 == bin2) {
            throw new IllegalArgumentException("two bins are one");
        }
        if (first.kind != second.kind || first.kind != third.kind) {
            throw new IllegalArgumentException("bins of unlike kinds");
        }
        // Two large shares would wrap around in int and look like a good third one.
        if (a0 < 0 || a1 < 0 || (long) a0 + a1 > SIXTIETHS) {
            throw new IllegalArgumentException("a share is below 0");
        }
        told.tell(bin0, bin1, bin2, a1, SIXTIETHS - a0 - a1);
    }

    public boolean send(int screen, int kilograms, int water)
            throws IndexOutOfBoundsException, IllegalArgumentException, IllegalStateException {
        Screen by = screenAt(screen);
        checkPoured(kilograms, water);
        if (!by.told) {
            throw new IllegalStateException("the screen was not told");
        }
        Bin first = binAt(by.bin0);
        Bin second = binAt(by.bin1);
        Bin third = binAt(by.bin2);
        int toSecond = kilograms * by.share1 / SIXTIETHS;
        int toThird = kilograms * by.share2 / SIXTIETHS;
        // The first bin gets what the others leave: its share and all that was cut off.
        int toFirst = kilograms - toSecond - toThird;
        if (!first.hasRoom(toFirst) || !second.hasRoom(toSecond) || !third.hasRoom(toThird)) {
            return false;
        }
        pourInto(first, toFirst, water);
        pourInto(second, toSecond, water);
        pourInto(third, toThird, water);
        return true;
    }

    public void scale(int bin, long grams) throws IndexOutOfBoundsException, IllegalArgumentException {
        Bin of = binAt(bin);
        if (grams < 0 || grams > MOST_READING) {
            throw new IllegalArgumentException("not a reading");
        }
        of.reading = grams;
    }

    public long shift(int what) throws IndexOutOfBoundsException {
        switch (what) {
            case 0:
                return gramsLost();
            case 1:
                return gramsIn;
            case 2:
                return gramsOut;
            case 3:
                return shiftsBegun;
            default:
                throw new IndexOutOfBoundsException("nothing such is told of a shift");
        }
    }

    public void begin() {
        for (int i = 0; i < MOST_BINS; i++) {
            bins[i].reading = NONE;
        }
        gramsIn = 0;
        gramsOut = 0;
        shiftsBegun++;
    }

    public int row(int day, int percent) throws IllegalArgumentException, IllegalStateException {
        checkDay(day);
        if (day <= boiler.lastDay() || percent < 0 || percent > MOST_PERCENT) {
            throw new IllegalArgumentException("not a row behind the one before");
        }
        if (!boiler.add(day, percent)) {
            throw new IllegalStateException("no room for a row more");
        }
        return boiler.rows;
    }

    public long burn(int bin, int kilograms, int day)
            throws IndexOutOfBoundsException, IllegalArgumentException, IllegalStateException {
        Bin from = binAt(bin);
        checkTaken(kilograms);
        checkDay(day);
        checkEnough(from, kilograms);
        long water = from.waterIn(kilograms);
        long dry = from.dryIn(kilograms);
        takeAway(from, dry, water);
        long heat = (dry * HEAT_OF_DRY - water * HEAT_OF_WATER) * boiler.percentAt(day) / 100;
        return heat < 0 ? 0 : heat;
    }

    public long sell(int bin, int kilograms, int cents)
            throws IndexOutOfBoundsException, IllegalArgumentException, IllegalStateException {
        Bin from = binAt(bin);
        checkTaken(kilograms);
        if (cents < 0 || cents > MOST_CENTS) {
            throw new IllegalArgumentException("not a price");
        }
        checkEnough(from, kilograms);
        long dry = from.dryIn(kilograms);
        takeAway(from, dry, from.waterIn(kilograms));
        return dry * cents / GRAMS_A_TON;
    }

    public void span(int bin, int low, int high) throws IndexOutOfBoundsException, IllegalArgumentException {
        Bin of = binAt(bin);
        if (low < 0 || high < low || high > THOUSAND) {
            throw new IllegalArgumentException("not a span");
        }
        of.low = low;
        of.high = high;
    }

    public boolean mix(int from, int to, int kilograms)
            throws IndexOutOfBoundsException, IllegalArgumentException, IllegalStateException {
        Bin source = binAt(from);
        Bin target = binAt(to);
        if (from == to) {
            throw new IllegalArgumentException("both bins are one");
        }
        checkTaken(kilograms);
        checkEnough(source, kilograms);
        long water = source.waterIn(kilograms);
        long dry = source.dryIn(kilograms);
        if (!target.hasRoom(kilograms) || !target.spanAllows(dry, water)) {
            return false;
        }
        takeAway(source, dry, water);
        target.change(dry, water);
        return true;
    }

    public long carbon() {
        long dry = 0;
        for (int i = 0; i < MOST_BINS; i++) {
            dry += bins[i].dry;
        }
        return dry / 2;
    }

    private static void checkKind(int kind) {
        if (kind < 0 || kind >= KINDS) {
            throw new IndexOutOfBoundsException("no such kind");
        }
    }

    private void checkLogs() {
        if (logs == 0) {
            throw new IllegalStateException("there was no log");
        }
    }

    private static void checkPoured(int kilograms, int water) {
        if (kilograms < 0 || kilograms > MOST_KILOGRAMS || water < 0 || water > THOUSAND) {
            throw new IllegalArgumentException("not what can be poured");
        }
    }

    private static void checkTaken(int kilograms) {
        if (kilograms < 1 || kilograms > MOST_KILOGRAMS) {
            throw new IllegalArgumentException("not what can be taken");
        }
    }

    private static void checkDay(int day) {
        if (day < 0 || day >= DAYS) {
            throw new IllegalArgumentException("not a day");
        }
    }

    private static void checkEnough(Bin from, int kilograms) {
        if ((long) kilograms * THOUSAND > from.grams()) {
            throw new IllegalStateException("there is not so much");
        }
    }

    private Bin binAt(int number) {
        if (number < 0 || number >= binCount || number >= MOST_BINS) {
            throw new IndexOutOfBoundsException("no such bin");
        }
        return bins[number];
    }

    private Screen screenAt(int number) {
        if (number < 0 || number >= MOST_SCREENS) {
            throw new IndexOutOfBoundsException("no such screen");
        }
        return screens[number];
    }

    private void pourInto(Bin into, int kilograms, int water) {
        into.change((long) kilograms * (THOUSAND - water), (long) kilograms * water);
        gramsIn += (long) kilograms * THOUSAND;
    }

    private void takeAway(Bin from, long dry, long water) {
        from.change(-dry, -water);
        gramsOut += dry + water;
    }

    private long gramsLost() {
        long lost = 0;
        for (int i = 0; i < MOST_BINS; i++) {
            if (bins[i].reading != NONE) {
                lost += bins[i].grams() - bins[i].reading;
            }
        }
        return lost;
    }

    /** What amount * above / below is, cut off; nothing has no portions. */
    private static long portion(long amount, long above, long below) {
        return below < 1 ? 0 : amount * above / below;
    }

    /** A part of a volume: above / below. */
    private static final class Share {
        int above;
        int below;

        Share(int above, int below) {
            this.above = above;
            this.below = below;
        }

        long of(long volume) {
            return portion(volume, above, below);
        }
    }

    /** FINE parts of one log, or of many. */
    private static final class Parts {
        long barkParts;
        long chipParts;
        long dustParts;
        long offcutParts;
        long boardParts;

        Parts() {
        }

        void tell(long bark, long dust, long left, long offcuts, long boards) {
            barkParts = bark;
            chipParts = left - offcuts;
            dustParts = dust;
            offcutParts = offcuts;
            boardParts = boards;
        }

        void add(Parts other) {
            barkParts += other.barkParts;
            chipParts += other.chipParts;
            dustParts += other.dustParts;
            offcutParts += other.offcutParts;
            boardParts += other.boardParts;
        }

        long ofKind(int kind) {
            switch (kind) {
                case BARK:
                    return barkParts;
                case CHIPS:
                    return chipParts;
                case DUST:
                    return dustParts;
                default:
                    return offcutParts;
            }
        }
    }

    /** Grams of dry wood and water, of one kind as it was told. */
    private static final class Bin {
        int kind;
        int most;
        long dry;
        long water;
        long reading;
        int low;
        int high;

        Bin() {
            reading = NONE;
            high = THOUSAND;
        }

        long grams() {
            return dry + water;
        }

        boolean hasRoom(int kilograms) {
            return grams() + (long) kilograms * THOUSAND <= (long) most * THOUSAND;
        }

        long waterIn(int kilograms) {
            return portion(water, (long) kilograms * THOUSAND, grams());
        }

        // Dry wood is the rest, so that what cutting leaves is not lost.
        long dryIn(int kilograms) {
            return (long) kilograms * THOUSAND - waterIn(kilograms);
        }

        boolean spanAllows(long moreDry, long moreWater) {
            long thousandths = portion(water + moreWater, THOUSAND, grams() + moreDry + moreWater);
            return thousandths >= low && thousandths <= high;
        }

        void change(long moreDry, long moreWater) {
            dry += moreDry;
            water += moreWater;
        }
    }

    /** Three bins by number, and the 60ths of all but the first one, which gets the rest. */
    private static final class Screen {
        boolean told;
        int bin0;
        int bin1;
        int bin2;
        int share1;
        int share2;

        Screen() {
        }

        void tell(int first, int second, int third, int ofSecond, int ofThird) {
            told = true;
            bin0 = first;
            bin1 = second;
            bin2 = third;
            share1 = ofSecond;
            share2 = ofThird;
        }
    }

    /** Percentages, each from its day on; the days grow. */
    private static final class Boiler {
        int rows;
        private final int[] days;
        private final int[] percents;

        Boiler() {
            days = new int[MOST_ROWS];
            percents = new int[MOST_ROWS];
        }

        int lastDay() {
            return rows < 1 || rows > MOST_ROWS ? NONE : days[rows - 1];
        }

        boolean add(int day, int percent) {
            if (rows < 0 || rows >= MOST_ROWS) {
                return false;
            }
            days[rows] = day;
            percents[rows] = percent;
            rows++;
            return true;
        }

        int percentAt(int day) {
            int percent = 100;
            for (int i = 0; i < rows && i < MOST_ROWS; i++) {
                if (days[i] <= day) {
                    percent = percents[i];
                }
            }
            return percent;
        }
    }
}
