import java.util.NoSuchElementException;

/** A lump of green gears; ../shared/DOC.md tells what each call promises. */
public final class GreenGears {
    public static final int NONE = -1;

    private static final int CANNOT = -2;
    private static final int IDLE = -2;
    private static final int JAMMED = -3;
    private static final int MISSING = -3;
    private static final int TOO_MANY = -4;
    private static final int TOO_LONG = -5;
    private static final int NEVER = -6;

    private static final int WHEELS = 14;
    private static final int MESHES = 16;
    private static final int AXLES = 10;
    private static final int DEPTHS = 10;
    private static final int BUILDS = 4;
    private static final int LEAST_TEETH = 10;
    private static final int MOST_TEETH = 400;
    private static final int FARTHEST = 500;

    private static final int PERIODS = 8;
    private static final int BOOK_SIGNS = 60;
    private static final int TEXT_SIGNS = 80;
    private static final int NUMBER_DIGITS = 4;
    private static final int MOST_NUMBER = 2000;
    private static final int SHOP_WIDTH = 200;
    private static final int PAIRS_WIDTH = 60;

    private static final int MOST_WAYS = 200000;
    /** Spans with a product of MOST_WAYS or less add up to less than this. */
    private static final int SPANS_TOGETHER = 800;
    /** 400 to the power of 7: no product of the wheels that drive is above. */
    private static final long MOST_PRODUCT = 1638400000000000000L;
    private static final long LONGEST_TURN = 1000000000000000L;
    private static final long LONGEST_SHOWN = 1000000000L;
    private static final int MOST_YEARS = 2000;
    private static final int MOST_YEARS_TOGETHER = 100000;
    private static final int MOST_YEARS_MEETING = 1000000;

    private static final int MONTHS = 223;
    private static final int MOST_SEEN = 20;
    private static final int MOST_GAMES = 8;
    private static final int MOST_LEFT = 12;
    private static final int MONTHS_TOLD = 10;
    private static final int ROW_NUMBERS = 16;

    private final Build lump;
    private final Build[] builds;
    private final Turns turns;
    private final Fits fits;
    private final Text text;
    private final Shop goods;
    private final Plates plates;
    private final Dial sky;
    private final Remains remains;
    private final Row told;
    private Book periods;
    private Book spare;

    public GreenGears() {
        lump = new Build();
        builds = new Build[BUILDS];
        turns = new Turns();
        fits = new Fits();
        text = new Text();
        goods = new Shop();
        plates = new Plates();
        sky = new Dial();
        remains = new Remains();
        told = new Row();
        periods = new Book();
        spare = new Book();
    }

    // ---- wheels

    public int wheel(int least, int most, int axle, int depth) {
        if (!isSpan(least, most) || !isAxle(axle) || !isDepth(depth)) {
            return NONE;
        }
        return lump.addWheel(least, most, axle, depth);
    }

    public int arc(int wheel, int seen, int tenths, int slack) {
        if (!lump.hasWheel(wheel) || seen < 1 || seen > 200 || tenths < 1 || tenths > 3600) {
            return NONE;
        }
        if (slack < 0 || slack > 100 || slack >= tenths) {
            return NONE;
        }
        int round = 3600 * seen;
        int widest = tenths + slack;
        long fewest = quotient(round + widest - 1, widest);
        long greatest = quotient(round, tenths - slack);
        int low = (int) Math.max(fewest, lump.leastOf(wheel));
        int high = (int) Math.min(greatest, lump.mostOf(wheel));
        if (low > high) {
            return CANNOT;
        }
        lump.narrow(wheel, low, high);
        return high - low + 1;
    }

    public int take(int wheel, int n) {
        if (!lump.hasWheel(wheel) || n < lump.leastOf(wheel) || n > lump.mostOf(wheel)) {
            return NONE;
        }
        int before = lump.teethOf(wheel);
        lump.takeTeeth(wheel, n);
        return before;
    }

    public int sheet(int kind, int n, int f, int step) {
        if (kind < 0 || kind > 3 || n > WHEELS) {
            return NONE;
        }
        if (kind == 3) {
            lump.takeLeast();
            return MISSING;
        }
        if (n < 0) {
            return CANNOT;
        }
        int heard = Math.min(n, lump.wheels);
        for (int i = 0; i < heard; i++) {
            lump.takeWithin(i, entry(kind, f + i * step));
        }
        return heard;
    }

    public int mesh(int one, int other) {
        if (!lump.hasWheel(one) || !lump.hasWheel(other)) {
            return NONE;
        }
        if (lump.axleOf(one) == lump.axleOf(other) || lump.meshing(one, other)) {
            return NONE;
        }
        return lump.addMesh(one, other);
    }

    public int part() {
        return lump.dropMesh();
    }

    public int of(int wheel, int what) throws NoSuchElementException {
        if (!lump.hasWheel(wheel)) {
            throw new NoSuchElementException("no such wheel");
        }
        switch (what) {
            case 0:
                return lump.leastOf(wheel);
            case 1:
                return lump.mostOf(wheel);
            case 2:
                return lump.teethOf(wheel);
            case 3:
                return lump.axleOf(wheel);
            case 4:
                return lump.depthOf(wheel);
            case 5:
                return lump.meshedWith(wheel);
            default:
                throw new NoSuchElementException("nothing of that kind");
        }
    }

    // ---- turns

    public int turn(int axle) {
        int state = turned(axle);
        if (state != 0) {
            return state;
        }
        told.clear();
        told.add(turns.upOf(axle));
        told.add(turns.downOf(axle));
        return 0;
    }

    public int turning() {
        int state = turns.solve(lump, NONE);
        if (state != 0) {
            return state;
        }
        int all = 0;
        int likeFirst = 0;
        for (int a = 0; a < AXLES; a++) {
            if (turns.reached(a)) {
                all |= 1 << a;
                likeFirst |= turns.upOf(a) > 0 ? 1 << a : 0;
            }
        }
        told.clear();
        told.add(likeFirst);
        return all;
    }

    public int jams() {
        int state = turns.solve(lump, NONE);
        if (state != JAMMED) {
            return state;
        }
        int bits = 0;
        for (int m = 0; m < lump.meshes; m++) {
            int without = turns.solve(lump, m);
            if (without == TOO_LONG) {
                return TOO_LONG;
            }
            bits |= without == JAMMED ? 0 : 1 << m;
        }
        return bits;
    }

    public int gives(int axle) {
        int state = turned(axle);
        if (state != 0) {
            return state;
        }
        int bits = 0;
        for (int p = 0; p < periods.size; p++) {
            long here = Math.abs(turns.upOf(axle)) * periods.downOf(p);
            bits |= here == turns.downOf(axle) * periods.upOf(p) ? 1 << p : 0;
        }
        told.clear();
        told.add(turns.upOf(axle) > 0 ? bits : 0);
        return bits;
    }

    public int show(int axle, int years) {
        if (!isYears(years)) {
            return NONE;
        }
        int state = shown(axle);
        if (state != 0) {
            return state;
        }
        long down = turns.downOf(axle);
        told.clear();
        told.addFraction(remainder(Math.abs(turns.upOf(axle)) * years, down), down);
        return 0;
    }

    public int together(int one, int other) {
        if (!isAxle(one) || !isAxle(other)) {
            return NONE;
        }
        int state = turned(one);
        if (state != 0) {
            return state;
        }
        if (!turns.reached(other)) {
            return IDLE;
        }
        if (turns.tooLongToShow(one) || turns.tooLongToShow(other)) {
            return TOO_LONG;
        }
        long up = turns.upOf(one) * turns.downOf(other) - turns.upOf(other) * turns.downOf(one);
        long down = turns.downOf(one) * turns.downOf(other);
        long shared = gcd(up, down);
        long years = quotient(down, shared);
        if (years > MOST_YEARS_TOGETHER) {
            return NEVER;
        }
        told.clear();
        told.add(quotient(up, shared));
        return (int) years;
    }

    public int way(int axle) {
        if (!isAxle(axle) || axle == 0) {
            return NONE;
        }
        if (!fits.find(lump, axle)) {
            return IDLE;
        }
        told.clear();
        fits.tellMeshes(told);
        return told.size;
    }

    // ---- fittings

    public int fittings(int axle, int period) {
        int state = aimed(axle, period);
        if (state != 0) {
            return state;
        }
        told.clear();
        int n = 0;
        for (; n < MOST_WAYS && fits.advance(); n++) {
            if (n == 0) {
                fits.tellTeeth(told);
            }
        }
        return n;
    }

    public boolean fit(int axle, int period, int i) {
        if (i < 0 || aimed(axle, period) != 0) {
            return false;
        }
        for (int k = 0; k < MOST_WAYS && fits.advance(); k++) {
            if (k == i) {
                fits.takeAll(lump);
                return true;
            }
        }
        return false;
    }

    public int sure(int axle, int period, int wheel) {
        int state = aimed(axle, period);
        if (state != 0 && state != TOO_MANY) {
            return state;
        }
        int place = fits.placeOf(wheel);
        if (place == NONE) {
            return NONE;
        }
        if (state != 0) {
            return state;
        }
        return fits.tally() ? fits.tellSpan(place, told) : CANNOT;
    }

    public int may(int axle) {
        if (!isAxle(axle) || axle == 0) {
            return NONE;
        }
        if (!fits.find(lump, axle)) {
            return IDLE;
        }
        int bits = 0;
        for (int p = 0; p < periods.size; p++) {
            if (!fits.fewWays()) {
                return TOO_MANY;
            }
            fits.aim(periods.upOf(p), periods.downOf(p));
            bits |= fits.advance() ? 1 << p : 0;
        }
        return bits;
    }

    public int next(int axle, int period) {
        int state = aimed(axle, period);
        if (state != 0) {
            return state;
        }
        return fits.tally() ? fits.tellFinest(told) : CANNOT;
    }

    // ---- the book, the shop

    public int sign(int v) {
        return text.addFour(v);
    }

    public boolean end(int n) {
        return text.cut(n);
    }

    public int book() {
        int answer = spare.read(text);
        if (answer >= 0) {
            Book before = periods;
            periods = spare;
            spare = before;
        }
        text.cut(0);
        return answer;
    }

    public boolean shop(int low, int high) {
        if (!isSpan(low, high) || high - low > SHOP_WIDTH) {
            return false;
        }
        goods.low = low;
        goods.high = high;
        return true;
    }

    public int trains(int period, int k) {
        if (!periods.has(period) || k < 1 || k > 2) {
            return NONE;
        }
        long up = periods.upOf(period);
        long down = periods.downOf(period);
        if (k == 1) {
            return goods.onePair(up, down, told);
        }
        return goods.tooWide() ? TOO_MANY : goods.twoPairs(up, down, told);
    }

    public int nearest(int period) {
        if (!periods.has(period)) {
            return NONE;
        }
        return goods.nearestPair(periods.upOf(period), periods.downOf(period), told);
    }

    public int common(int periods) {
        if (!this.periods.hasAll(periods)) {
            return NONE;
        }
        return goods.tooWide() ? TOO_MANY : goods.mostShared(this.periods, periods, told);
    }

    // ---- between the plates

    public boolean axle(int axle, int x, int y) {
        if (!isAxle(axle) || !isPlace(x) || !isPlace(y)) {
            return false;
        }
        lump.stand(axle, x, y);
        return true;
    }

    public int room(int slack) {
        if (slack < 0 || slack > 50) {
            return NONE;
        }
        told.clear();
        return plates.tellFaults(lump, slack, told);
    }

    public int pierced() {
        int bits = 0;
        for (int a = 0; a < AXLES; a++) {
            bits |= plates.goesThrough(lump, a) ? 1 << a : 0;
        }
        return bits;
    }

    public int depths() {
        if (!plates.group(lump)) {
            return CANNOT;
        }
        return plates.tellLayers(lump, told);
    }

    // ---- a pin in a slot

    public int slot(int a, int b, int c, int d) {
        if (a < 0 || a > 99 || b <= a || b > 100 || d < 1 || d > 20 || c < -d || c > d) {
            return NONE;
        }
        long up = (long) b * (b * d - a * c);
        long down = (long) d * (b * b + a * a) - 2L * a * b * c;
        told.clear();
        told.addFraction(up, down);
        return moreOrLess(up - down);
    }

    public int uneven(int u, int d) {
        if (u < 1 || u > 1000 || d < 1 || d > 1000 || u < d) {
            return NONE;
        }
        // of e = a / 100 the fastest by the slowest is (100 + a) / (100 - a)
        int best = 0;
        for (int a = 1; a < 100; a++) {
            long here = Math.abs((100L + a) * d - (100L - a) * u);
            long there = Math.abs((100L + best) * d - (100L - best) * u);
            best = here * (100 - best) < there * (100 - a) ? a : best;
        }
        told.clear();
        told.addFraction(100 + best, 100 - best);
        return best;
    }

    // ---- the sky

    public int near(int axle, int period, int years) {
        if (!periods.has(period) || !isYears(years)) {
            return NONE;
        }
        int state = shown(axle);
        if (state != 0) {
            return state;
        }
        long ahead = aheadAYear(axle, period) * years;
        told.clear();
        told.addFraction(ahead, turns.downOf(axle) * periods.downOf(period));
        return moreOrLess(ahead);
    }

    public int off(int axle, int period, int k) {
        if (!periods.has(period) || k < 0 || k > 360) {
            return NONE;
        }
        int state = shown(axle);
        if (state != 0) {
            return state;
        }
        long ahead = Math.abs(aheadAYear(axle, period)) * 360;
        if (ahead == 0) {
            return NEVER;
        }
        long year = quotient(turns.downOf(axle) * periods.downOf(period) * k, ahead) + 1;
        return year > MOST_YEARS ? NEVER : (int) year;
    }

    public int meets(int periods) {
        if (!this.periods.hasAll(periods)) {
            return NONE;
        }
        int years = this.periods.yearsToMeet(periods);
        if (years == NONE) {
            return CANNOT;
        }
        told.clear();
        this.periods.tellTurns(periods, years, told);
        return years;
    }

    // ---- words with gaps

    public int word(int what) {
        int answer = what < 0 || what > 1 ? NONE : periods.matchWord(text, what, told);
        text.cut(0);
        return answer;
    }

    public int names() {
        int answer = periods.matchNames(text, told);
        text.cut(0);
        return answer;
    }

    // ---- when it was set

    public int dial(int month, boolean is) {
        return sky.mark(month, is);
    }

    public int seen(int month, boolean was) {
        return sky.addSeen(month, was);
    }

    public int games(int year) {
        return sky.addGames(year);
    }

    public int when() {
        told.clear();
        return sky.tellMonths(told);
    }

    public int wrong() {
        told.clear();
        return sky.tellFewestWrong(told);
    }

    public int year() {
        return sky.yearOfFour();
    }

    // ---- what is left, and builds

    public int left(int axle, int depth, int low, int high) {
        if (!isAxle(axle) || !isDepth(depth) || !isSpan(low, high)) {
            return NONE;
        }
        return remains.addLeft(axle, depth, low, high);
    }

    public int breaks() {
        int bits = remains.broken(lump);
        told.clear();
        told.add(bits == 0 ? remains.fewestWheels(lump) : NONE);
        return bits;
    }

    public boolean keep(int i) {
        if (i < 0 || i >= builds.length) {
            return false;
        }
        Build kept = builds[i];
        if (kept == null) {
            kept = new Build();
            builds[i] = kept;
        }
        kept.copy(lump);
        return true;
    }

    public boolean again(int i) {
        Build kept = buildAt(i);
        if (kept == null) {
            return false;
        }
        lump.copy(kept);
        return true;
    }

    public int unlike(int one, int other) {
        Build first = buildAt(one);
        Build second = buildAt(other);
        if (first == null || second == null) {
            return NONE;
        }
        int bits = first.unlikeWheels(second);
        told.clear();
        told.add(bits);
        told.add(remains.broken(first));
        told.add(remains.broken(second));
        return Integer.bitCount(bits);
    }

    public int count(int what) {
        switch (what) {
            case 0:
                return lump.wheels;
            case 1:
                return lump.meshes;
            case 2:
                return periods.size;
            case 3:
                return sky.marked;
            case 4:
                return sky.seenSize;
            case 5:
                return sky.gamesSize;
            case 6:
                return remains.size;
            case 7:
                return told.size;
            case 8:
                return text.size;
            case 9:
                return goods.low;
            case 10:
                return goods.high;
            default:
                return NONE;
        }
    }

    public long row(int i) throws NoSuchElementException {
        if (!told.has(i)) {
            throw new NoSuchElementException("no such number of the row");
        }
        return told.numberAt(i);
    }

    // ---- what several calls need

    private static boolean isAxle(int axle) {
        return axle >= 0 && axle < AXLES;
    }

    private static boolean isDepth(int depth) {
        return depth >= 0 && depth < DEPTHS;
    }

    private static boolean isSpan(int low, int high) {
        return low >= LEAST_TEETH && high <= MOST_TEETH && low <= high;
    }

    private static boolean isPlace(int x) {
        return x >= -FARTHEST && x <= FARTHEST;
    }

    private static boolean isYears(int years) {
        return years >= 0 && years <= MOST_YEARS;
    }

    private static int entry(int kind, int v) {
        if (kind == 0) {
            return (byte) v;
        }
        return kind == 1 ? (short) v : v;
    }

    private static int moreOrLess(long difference) {
        if (difference == 0) {
            return 0;
        }
        return difference > 0 ? 1 : 2;
    }

    /** 0 if the axle turns (its turn stands in turns then), or why it does not. */
    private int turned(int axle) {
        if (!isAxle(axle)) {
            return NONE;
        }
        int state = turns.solve(lump, NONE);
        if (state != 0) {
            return state;
        }
        return turns.reached(axle) ? 0 : IDLE;
    }

    private int shown(int axle) {
        int state = turned(axle);
        if (state != 0) {
            return state;
        }
        return turns.tooLongToShow(axle) ? TOO_LONG : 0;
    }

    /** How far the axle gets ahead of the period in a year, times both lower numbers. */
    private long aheadAYear(int axle, int period) {
        return Math.abs(turns.upOf(axle)) * periods.downOf(period)
            - periods.upOf(period) * turns.downOf(axle);
    }

    /** 0 if fits stands ahead of the first fitting, or why it does not. */
    private int aimed(int axle, int period) {
        if (!isAxle(axle) || axle == 0 || !periods.has(period)) {
            return NONE;
        }
        if (!fits.find(lump, axle)) {
            return IDLE;
        }
        if (!fits.fewWays()) {
            return TOO_MANY;
        }
        fits.aim(periods.upOf(period), periods.downOf(period));
        return 0;
    }

    private Build buildAt(int i) {
        return i >= 0 && i < builds.length ? builds[i] : null;
    }

    private static int at(int[] numbers, int i) {
        return i >= 0 && i < numbers.length ? numbers[i] : 0;
    }

    private static void put(int[] numbers, int i, int v) {
        if (i >= 0 && i < numbers.length) {
            numbers[i] = v;
        }
    }

    private static long longAt(long[] numbers, int i) {
        return i >= 0 && i < numbers.length ? numbers[i] : 0;
    }

    private static void putLong(long[] numbers, int i, long v) {
        if (i >= 0 && i < numbers.length) {
            numbers[i] = v;
        }
    }

    private static void copyAll(int[] from, int[] to) {
        for (int i = 0; i < from.length && i < to.length; i++) {
            to[i] = from[i];
        }
    }

    private static void fill(int[] numbers, int v) {
        for (int i = 0; i < numbers.length; i++) {
            numbers[i] = v;
        }
    }

    private static long quotient(long n, long by) {
        return by == 0 ? 0 : n / by;
    }

    private static long remainder(long n, long by) {
        return by == 0 ? 0 : n % by;
    }

    private static boolean divides(long by, long n) {
        return by != 0 && n % by == 0;
    }

    /** Of the sizes of both; two longs take less than a hundred steps. */
    private static long gcd(long one, long other) {
        long a = Math.abs(one);
        long b = Math.abs(other);
        for (int i = 0; i < 100 && b != 0; i++) {
            long rest = a % b;
            a = b;
            b = rest;
        }
        return a;
    }

    /** The numbers told last. */
    private static final class Row {
        private final long[] numbers = new long[ROW_NUMBERS];
        private int size;

        void clear() {
            size = 0;
        }

        void add(long number) {
            if (size < ROW_NUMBERS) {
                putLong(numbers, size, number);
                size++;
            }
        }

        void addFraction(long up, long down) {
            long shared = gcd(up, down);
            add(quotient(up, shared));
            add(quotient(down, shared));
        }

        boolean has(int i) {
            return i >= 0 && i < size;
        }

        long numberAt(int i) {
            return longAt(numbers, i);
        }
    }

    /** Wheels, meshes and where the axles stand. */
    private static final class Build {
        private final int[] least = new int[WHEELS];
        private final int[] most = new int[WHEELS];
        private final int[] taken = new int[WHEELS];
        private final int[] axles = new int[WHEELS];
        private final int[] levels = new int[WHEELS];
        private final int[] ones = new int[MESHES];
        private final int[] others = new int[MESHES];
        private final int[] xs = new int[AXLES];
        private final int[] ys = new int[AXLES];
        private int wheels;
        private int meshes;

        int addWheel(int low, int high, int axle, int depth) {
            if (wheels >= WHEELS) {
                return NONE;
            }
            int w = wheels;
            narrow(w, low, high);
            put(axles, w, axle);
            put(levels, w, depth);
            wheels++;
            return w;
        }

        void narrow(int w, int low, int high) {
            put(least, w, low);
            put(most, w, high);
            put(taken, w, low);
        }

        boolean hasWheel(int w) {
            return w >= 0 && w < wheels;
        }

        int leastOf(int w) {
            return at(least, w);
        }

        int mostOf(int w) {
            return at(most, w);
        }

        int teethOf(int w) {
            return at(taken, w);
        }

        int axleOf(int w) {
            return at(axles, w);
        }

        int depthOf(int w) {
            return at(levels, w);
        }

        void takeTeeth(int w, int n) {
            put(taken, w, n);
        }

        void takeWithin(int w, int n) {
            put(taken, w, Math.max(leastOf(w), Math.min(mostOf(w), n)));
        }

        void takeLeast() {
            for (int w = 0; w < wheels; w++) {
                put(taken, w, leastOf(w));
            }
        }

        int addMesh(int one, int other) {
            if (meshes >= MESHES) {
                return NONE;
            }
            put(ones, meshes, one);
            put(others, meshes, other);
            meshes++;
            return meshes;
        }

        int dropMesh() {
            if (meshes == 0) {
                return NONE;
            }
            meshes--;
            return meshes;
        }

        int oneOf(int m) {
            return at(ones, m);
        }

        int otherOf(int m) {
            return at(others, m);
        }

        /** The wheel of a mesh that is on the axle; NONE if neither is. */
        int wheelOn(int m, int axle) {
            if (axleOf(oneOf(m)) == axle) {
                return oneOf(m);
            }
            return axleOf(otherOf(m)) == axle ? otherOf(m) : NONE;
        }

        int meshedWith(int w) {
            int bits = 0;
            for (int m = 0; m < meshes; m++) {
                bits |= oneOf(m) == w ? 1 << otherOf(m) : 0;
                bits |= otherOf(m) == w ? 1 << oneOf(m) : 0;
            }
            return bits;
        }

        boolean meshing(int v, int w) {
            return (meshedWith(v) >> w & 1) == 1;
        }

        void stand(int axle, int x, int y) {
            put(xs, axle, x);
            put(ys, axle, y);
        }

        long squareApart(int one, int other) {
            long dx = at(xs, one) - at(xs, other);
            long dy = at(ys, one) - at(ys, other);
            return dx * dx + dy * dy;
        }

        /** Whether wheels of unlike axles that do not mesh would meet at one depth. */
        boolean crowded(int v, int w) {
            if (axleOf(v) == axleOf(w) || meshing(v, w)) {
                return false;
            }
            long both = teethOf(v) + teethOf(w);
            return squareApart(axleOf(v), axleOf(w)) < both * both;
        }

        int unlikeWheels(Build there) {
            int bits = 0;
            for (int w = 0; w < WHEELS; w++) {
                boolean alike = hasWheel(w) == there.hasWheel(w);
                if (alike && hasWheel(w)) {
                    alike = teethOf(w) == there.teethOf(w) && axleOf(w) == there.axleOf(w)
                        && depthOf(w) == there.depthOf(w);
                }
                bits |= alike ? 0 : 1 << w;
            }
            return bits;
        }

        void copy(Build from) {
            copyAll(from.least, least);
            copyAll(from.most, most);
            copyAll(from.taken, taken);
            copyAll(from.axles, axles);
            copyAll(from.levels, levels);
            copyAll(from.ones, ones);
            copyAll(from.others, others);
            copyAll(from.xs, xs);
            copyAll(from.ys, ys);
            wheels = from.wheels;
            meshes = from.meshes;
        }
    }

    /** Turns of the axles for one of axle 0, each in lowest terms. */
    private static final class Turns {
        private final long[] ups = new long[AXLES];
        /** 0 of an axle that is not reached. */
        private final long[] downs = new long[AXLES];
        private boolean tooLong;

        long upOf(int axle) {
            return longAt(ups, axle);
        }

        long downOf(int axle) {
            return longAt(downs, axle);
        }

        boolean reached(int axle) {
            return downOf(axle) != 0;
        }

        boolean tooLongToShow(int axle) {
            return Math.abs(upOf(axle)) > LONGEST_SHOWN || downOf(axle) > LONGEST_SHOWN;
        }

        /** Turns by all meshes but one (NONE: by all): 0, JAMMED or TOO_LONG. */
        int solve(Build lump, int without) {
            for (int a = 0; a < AXLES; a++) {
                putLong(downs, a, 0);
            }
            putLong(ups, 0, 1);
            putLong(downs, 0, 1);
            tooLong = false;
            boolean more = true;
            for (int pass = 0; pass < AXLES && more && !tooLong; pass++) {
                more = reachMore(lump, without);
            }
            if (tooLong) {
                return TOO_LONG;
            }
            return jammed(lump, without) ? JAMMED : 0;
        }

        /** Once through the meshes; true if one of them reached an axle. */
        private boolean reachMore(Build lump, int without) {
            boolean more = false;
            for (int m = 0; m < lump.meshes && !tooLong; m++) {
                int one = lump.oneOf(m);
                int other = lump.otherOf(m);
                boolean first = reached(lump.axleOf(one));
                if (m != without && first != reached(lump.axleOf(other))) {
                    reach(lump, first ? one : other, first ? other : one);
                    more = true;
                }
            }
            return more;
        }

        private void reach(Build lump, int driver, int driven) {
            int from = lump.axleOf(driver);
            long up = -upOf(from) * lump.teethOf(driver);
            long down = downOf(from) * lump.teethOf(driven);
            long shared = gcd(up, down);
            up = quotient(up, shared);
            down = quotient(down, shared);
            putLong(ups, lump.axleOf(driven), up);
            putLong(downs, lump.axleOf(driven), down);
            tooLong = Math.abs(up) > LONGEST_TURN || down > LONGEST_TURN;
        }

        private boolean jammed(Build lump, int without) {
            for (int m = 0; m < lump.meshes; m++) {
                if (m != without && !agrees(lump, lump.oneOf(m), lump.otherOf(m))) {
                    return true;
                }
            }
            return false;
        }

        private boolean agrees(Build lump, int one, int other) {
            int from = lump.axleOf(one);
            int to = lump.axleOf(other);
            if (!reached(from)) {
                return true;
            }
            long up = -upOf(from) * lump.teethOf(one);
            long down = downOf(from) * lump.teethOf(other);
            long shared = gcd(up, down);
            return quotient(up, shared) == upOf(to) && quotient(down, shared) == downOf(to);
        }
    }

    /** The way of the fewest meshes from axle 0 to an axle. */
    private static final class Way {
        /** How many meshes each axle is from the goal; NONE if none lead there. */
        private final int[] far = new int[AXLES];
        private final int[] path = new int[AXLES];
        private final int[] drivers = new int[AXLES];
        private final int[] drivens = new int[AXLES];
        private int length;

        boolean lead(Build lump, int goal) {
            measure(lump, goal);
            length = 0;
            int here = 0;
            for (int left = at(far, 0); left > 0; left--) {
                int m = firstNearer(lump, here, left);
                int driver = lump.wheelOn(m, here);
                int driven = driver == lump.oneOf(m) ? lump.otherOf(m) : lump.oneOf(m);
                put(path, length, m);
                put(drivers, length, driver);
                put(drivens, length, driven);
                length++;
                here = lump.axleOf(driven);
            }
            return length > 0;
        }

        private void measure(Build lump, int goal) {
            fill(far, NONE);
            put(far, goal, 0);
            for (int n = 0; n < AXLES; n++) {
                for (int m = 0; m < lump.meshes; m++) {
                    int one = lump.axleOf(lump.oneOf(m));
                    int other = lump.axleOf(lump.otherOf(m));
                    spread(one, other, n);
                    spread(other, one, n);
                }
            }
        }

        private void spread(int from, int to, int n) {
            if (at(far, from) == n && at(far, to) == NONE) {
                put(far, to, n + 1);
            }
        }

        private int firstNearer(Build lump, int here, int left) {
            for (int m = 0; m < lump.meshes; m++) {
                int one = lump.axleOf(lump.oneOf(m));
                int other = lump.axleOf(lump.otherOf(m));
                if (one == here && at(far, other) == left - 1) {
                    return m;
                }
                if (other == here && at(far, one) == left - 1) {
                    return m;
                }
            }
            return NONE;
        }

        private static boolean holds(int[] wheels, int size, int w) {
            for (int i = 0; i < size; i++) {
                if (at(wheels, i) == w) {
                    return true;
                }
            }
            return false;
        }

        boolean drives(int w) {
            return holds(drivers, length, w);
        }

        boolean driven(int w) {
            return holds(drivens, length, w);
        }
    }

    /** Goes through the fittings of a way to a ratio, in order. */
    private static final class Fits {
        private final Way road = new Way();
        /** The wheels on the way, by numbers; the rows below go by their places here. */
        private final int[] wheels = new int[WHEELS];
        /** 1: it drives alone, -1: it is driven alone, 0: both. */
        private final int[] roles = new int[WHEELS];
        private final int[] low = new int[WHEELS];
        private final int[] high = new int[WHEELS];
        private final int[] teeth = new int[WHEELS];
        /** Products of the teeth that drive, and of those driven, ahead of a place. */
        private final long[] driving = new long[WHEELS];
        private final long[] driven = new long[WHEELS];
        /** In how many fittings a wheel has which teeth; each wheel has its part of it. */
        private final int[] times = new int[SPANS_TOGETHER];
        private final int[] begins = new int[WHEELS];
        private int size;
        private long up;
        private long down;
        private boolean begun;

        boolean find(Build lump, int axle) {
            size = 0;
            if (!road.lead(lump, axle)) {
                return false;
            }
            for (int w = 0; w < lump.wheels; w++) {
                boolean drives = road.drives(w);
                boolean isDriven = road.driven(w);
                if (drives || isDriven) {
                    put(wheels, size, w);
                    put(roles, size, (drives ? 1 : 0) - (isDriven ? 1 : 0));
                    put(low, size, lump.leastOf(w));
                    put(high, size, lump.mostOf(w));
                    size++;
                }
            }
            return true;
        }

        private int spanAt(int place) {
            return at(high, place) - at(low, place) + 1;
        }

        boolean fewWays() {
            long ways = 1;
            for (int i = 0; i < size && ways <= MOST_WAYS; i++) {
                ways *= spanAt(i);
            }
            return ways <= MOST_WAYS;
        }

        void aim(long ratioUp, long ratioDown) {
            long shared = gcd(ratioUp, ratioDown);
            up = quotient(ratioUp, shared);
            down = quotient(ratioDown, shared);
            begun = false;
        }

        /** On to the next fitting; false if there is none more. */
        boolean advance() {
            int last = size - 1;
            if (begun && at(roles, last) == 0 && at(teeth, last) < at(high, last)) {
                put(teeth, last, at(teeth, last) + 1);
                return true;
            }
            for (int k = 0; k <= MOST_WAYS; k++) {
                if (!stepOn(last)) {
                    return false;
                }
                if (solveLast(last)) {
                    return true;
                }
            }
            return false;
        }

        /** The next teeth of all wheels but the last, whose teeth follow from theirs. */
        private boolean stepOn(int last) {
            if (!begun) {
                begun = true;
                putLong(driving, 0, 1);
                putLong(driven, 0, 1);
                restart(0, last);
                return true;
            }
            for (int i = last - 1; i >= 0; i--) {
                if (at(teeth, i) < at(high, i)) {
                    put(teeth, i, at(teeth, i) + 1);
                    multiply(i);
                    restart(i + 1, last);
                    return true;
                }
            }
            return false;
        }

        private void restart(int from, int last) {
            for (int i = from; i < last; i++) {
                put(teeth, i, at(low, i));
                multiply(i);
            }
        }

        private void multiply(int i) {
            int role = at(roles, i);
            long n = at(teeth, i);
            putLong(driving, i + 1, longAt(driving, i) * (role > 0 ? n : 1));
            putLong(driven, i + 1, longAt(driven, i) * (role < 0 ? n : 1));
        }

        private boolean solveLast(int last) {
            long over = longAt(driving, last);
            long under = longAt(driven, last);
            int role = at(roles, last);
            if (role == 0) {
                boolean fitting = missing(under, down, up, over) == 1;
                put(teeth, last, fitting ? at(low, last) : at(high, last));
                return fitting;
            }
            long n = role > 0 ? missing(under, down, up, over) : missing(over, up, down, under);
            if (n < at(low, last) || n > at(high, last)) {
                return false;
            }
            put(teeth, last, (int) n);
            return true;
        }

        /** The n with a / b * c = d * n, b and c having nothing in common; 0 if none. */
        private static long missing(long a, long b, long c, long d) {
            if (!divides(b, a)) {
                return 0;
            }
            long part = quotient(a, b);
            if (part > quotient(MOST_PRODUCT, c)) {
                return 0;
            }
            return divides(d, part * c) ? quotient(part * c, d) : 0;
        }

        int placeOf(int wheel) {
            for (int i = 0; i < size; i++) {
                if (at(wheels, i) == wheel) {
                    return i;
                }
            }
            return NONE;
        }

        void takeAll(Build lump) {
            for (int i = 0; i < size; i++) {
                lump.takeTeeth(at(wheels, i), at(teeth, i));
            }
        }

        void tellMeshes(Row row) {
            for (int i = 0; i < road.length; i++) {
                row.add(at(road.path, i));
            }
        }

        void tellTeeth(Row row) {
            for (int i = 0; i < size; i++) {
                row.add(at(teeth, i));
            }
        }

        /** Counts in how many fittings each wheel has which teeth; false if none fits. */
        boolean tally() {
            fill(times, 0);
            int begin = 0;
            for (int i = 0; i < size; i++) {
                put(begins, i, begin - at(low, i));
                begin += spanAt(i);
            }
            int n = 0;
            for (; n < MOST_WAYS && advance(); n++) {
                for (int i = 0; i < size; i++) {
                    int there = at(begins, i) + at(teeth, i);
                    put(times, there, at(times, there) + 1);
                }
            }
            return n > 0;
        }

        private int timesOf(int place, int n) {
            return at(times, at(begins, place) + n);
        }

        int tellSpan(int place, Row row) {
            int least = NONE;
            int most = NONE;
            int unlike = 0;
            for (int n = at(low, place); n <= at(high, place); n++) {
                if (timesOf(place, n) > 0) {
                    least = least == NONE ? n : least;
                    most = n;
                    unlike++;
                }
            }
            row.clear();
            row.add(least);
            row.add(most);
            row.add(unlike);
            return 0;
        }

        private int worstOf(int place) {
            int worst = 0;
            for (int n = at(low, place); n <= at(high, place); n++) {
                worst = Math.max(worst, timesOf(place, n));
            }
            return worst;
        }

        int tellFinest(Row row) {
            int best = 0;
            for (int i = 1; i < size; i++) {
                best = worstOf(i) < worstOf(best) ? i : best;
            }
            row.clear();
            row.add(worstOf(best));
            return at(wheels, best);
        }
    }

    /** The text, sign by sign. */
    private static final class Text {
        private final int[] signs = new int[TEXT_SIGNS];
        private int size;

        int addFour(int v) {
            if (size + 4 > TEXT_SIGNS) {
                return NONE;
            }
            for (int shift = 24; shift >= 0; shift -= 8) {
                put(signs, size, v >> shift & 255);
                size++;
            }
            return size;
        }

        boolean cut(int n) {
            if (n < 0 || n > size) {
                return false;
            }
            size = n;
            return true;
        }

        /** The sign at p; NONE behind the end. */
        int signAt(int p) {
            return p >= 0 && p < size ? at(signs, p) : NONE;
        }

        boolean digitAt(int p) {
            return signAt(p) >= '0' && signAt(p) <= '9';
        }

        boolean letterAt(int p) {
            return signAt(p) >= 'a' && signAt(p) <= 'z';
        }

        boolean gapAt(int p) {
            return signAt(p) == '?';
        }
    }

    /** The periods; it can be read anew from a text. */
    private static final class Book {
        private final int[] ups = new int[PERIODS];
        private final int[] downs = new int[PERIODS];
        /** The sign of a name; 0 if it has none. */
        private final int[] called = new int[PERIODS];
        /** Ways to put periods to the signs left, by the periods that are used. */
        private final int[] ways = new int[1 << PERIODS];
        private int size;
        /** How far a reading came, the last number it read, and whether it may go on. */
        private int place;
        private int number;
        private boolean good;

        boolean has(int p) {
            return p >= 0 && p < size;
        }

        boolean hasAll(int bits) {
            return bits > 0 && bits < 1 << size;
        }

        long upOf(int p) {
            return at(ups, p);
        }

        long downOf(int p) {
            return at(downs, p);
        }

        /** How many periods the text has; -1 - p if the sign at p can't stand there. */
        int read(Text text) {
            size = 0;
            place = 0;
            if (text.size == 0) {
                return 0;
            }
            int stop = Math.min(text.size, BOOK_SIGNS);
            boolean more = true;
            for (int line = 0; line < PERIODS && more; line++) {
                readLine(text, stop, line);
                more = good && place < stop;
                if (more) {
                    // a ; wants one line more, at the end of the text too
                    good = text.signAt(place) == ';' && line + 1 < PERIODS;
                    more = good;
                    place += good ? 1 : 0;
                }
            }
            if (good && text.size <= BOOK_SIGNS) {
                return size;
            }
            return -1 - place;
        }

        private void readLine(Text text, int stop, int line) {
            readNumber(text, stop);
            put(ups, line, number);
            if (good) {
                good = place < stop && text.signAt(place) == ':';
                place += good ? 1 : 0;
            }
            if (good) {
                readNumber(text, stop);
                put(downs, line, number);
            }
            put(called, line, 0);
            if (good && place < stop && text.letterAt(place)) {
                put(called, line, text.signAt(place));
                place++;
            }
            size = line + 1;
        }

        /** Reads a number; if its size is wrong, place is at its last digit. */
        private void readNumber(Text text, int stop) {
            int digits = 0;
            number = 0;
            for (int i = 0; i < NUMBER_DIGITS && place + i < stop && text.digitAt(place + i); i++) {
                number = number * 10 + text.signAt(place + i) - '0';
                digits++;
            }
            good = number >= 1 && number <= MOST_NUMBER;
            if (digits > 0) {
                place += good ? digits : digits - 1;
            }
        }

        /** The least years in which all told periods come to whole turns; NONE if too many. */
        int yearsToMeet(int bits) {
            long years = 1;
            for (int p = 0; p < size; p++) {
                if ((bits >> p & 1) == 1) {
                    long down = quotient(downOf(p), gcd(upOf(p), downOf(p)));
                    years *= quotient(down, gcd(years, down));
                    if (years > MOST_YEARS_MEETING) {
                        return NONE;
                    }
                }
            }
            return (int) years;
        }

        void tellTurns(int bits, int years, Row row) {
            for (int p = 0; p < size; p++) {
                if ((bits >> p & 1) == 1) {
                    row.add(quotient(upOf(p) * years, downOf(p)));
                }
            }
        }

        /** Of what 0 the lower numbers that a word may be, of 1 the upper ones. */
        int matchWord(Text text, int what, Row row) {
            for (int p = 0; p < text.size; p++) {
                boolean stands = p < NUMBER_DIGITS && (text.digitAt(p) || text.gapAt(p));
                if (!stands) {
                    return -100 - p;
                }
            }
            if (text.size == 0) {
                return -100;
            }
            int bits = 0;
            for (int p = 0; p < size; p++) {
                bits |= mayBe(text, what == 0 ? at(downs, p) : at(ups, p)) ? 1 << p : 0;
            }
            int all = 0;
            for (int n = 1; n <= MOST_NUMBER; n++) {
                all += mayBe(text, n) ? 1 : 0;
            }
            row.clear();
            row.add(all);
            return bits;
        }

        private static boolean mayBe(Text word, int n) {
            int rest = n;
            for (int i = word.size - 1; i >= 0; i--) {
                if (rest == 0 || !word.gapAt(i) && word.signAt(i) - '0' != rest % 10) {
                    return false;
                }
                rest /= 10;
            }
            return rest == 0;
        }

        int matchNames(Text text, Row row) {
            for (int p = 0; p < text.size; p++) {
                if (p >= PERIODS || !text.letterAt(p) && !text.gapAt(p)) {
                    return -100 - p;
                }
            }
            if (text.size == 0) {
                return -100;
            }
            countWays(text);
            int all = at(ways, 0);
            if (all > 0) {
                tellFirstWay(text, row);
            }
            return all;
        }

        private void countWays(Text text) {
            for (int used = (1 << size) - 1; used >= 0; used--) {
                int sign = Integer.bitCount(used);
                int n = sign == text.size ? 1 : 0;
                for (int p = 0; p < size && sign < text.size; p++) {
                    n += open(text, sign, used, p) ? at(ways, used | 1 << p) : 0;
                }
                put(ways, used, n);
            }
        }

        private boolean open(Text text, int sign, int used, int p) {
            boolean alike = text.gapAt(sign) || text.signAt(sign) == at(called, p);
            return alike && (used >> p & 1) == 0;
        }

        private void tellFirstWay(Text text, Row row) {
            row.clear();
            int used = 0;
            for (int sign = 0; sign < text.size; sign++) {
                boolean found = false;
                for (int p = 0; p < size && !found; p++) {
                    found = open(text, sign, used, p) && at(ways, used | 1 << p) > 0;
                    if (found) {
                        row.add(p);
                        used |= 1 << p;
                    }
                }
            }
        }
    }

    /** Teeth of new wheels, and trains of them. */
    private static final class Shop {
        private int low = 15;
        private int high = 120;
        /** Periods that each of the teeth, from low on, can help to make. */
        private final int[] helps = new int[PAIRS_WIDTH + 1];

        boolean tooWide() {
            return high - low > PAIRS_WIDTH;
        }

        private boolean sells(long n) {
            return n >= low && n <= high;
        }

        int onePair(long up, long down, Row row) {
            row.clear();
            int n = 0;
            for (int a = low; a <= high; a++) {
                if (divides(up, a * down) && sells(quotient(a * down, up))) {
                    // less a has less c too: the first is the one with the fewest teeth
                    if (n == 0) {
                        row.add(a);
                        row.add(quotient(a * down, up));
                    }
                    n++;
                }
            }
            return n;
        }

        /** The least c not above its e, c times e being the product; NONE if none, from a c on. */
        private int splitFrom(int from, long product) {
            for (int c = from; c <= high && (long) c * c <= product; c++) {
                if (divides(c, product) && sells(quotient(product, c))) {
                    return c;
                }
            }
            return NONE;
        }

        /** What c times e has to be for teeth a and b; 0 if it can't be. */
        private long drivenProduct(int a, int b, long up, long down) {
            long product = (long) a * b * down;
            return divides(up, product) ? quotient(product, up) : 0;
        }

        int twoPairs(long up, long down, Row row) {
            row.clear();
            int n = 0;
            long fewest = 0;
            for (int a = low; a <= high; a++) {
                for (int b = a; b <= high; b++) {
                    long product = drivenProduct(a, b, up, down);
                    int c = splitFrom(low, product);
                    for (int k = 0; k <= PAIRS_WIDTH && c != NONE; k++) {
                        long e = quotient(product, c);
                        if (n == 0 || a + b + c + e < fewest) {
                            fewest = a + b + c + e;
                            row.clear();
                            row.add(a);
                            row.add(b);
                            row.add(c);
                            row.add(e);
                        }
                        n++;
                        c = splitFrom(c + 1, product);
                    }
                }
            }
            return n;
        }

        int nearestPair(long up, long down, Row row) {
            long bestA = low;
            long bestC = low;
            for (int c = low; c <= high; c++) {
                long below = quotient(up * c, down);
                for (long n = below; n <= below + 1; n++) {
                    long a = Math.max(low, Math.min(high, n));
                    // of equal ones the first has the fewest teeth: less a and more c than another
                    // can't be, for that a by the other's c would be nearer than both
                    if (Math.abs(a * down - up * c) * bestC < Math.abs(bestA * down - up * bestC) * c) {
                        bestA = a;
                        bestC = c;
                    }
                }
            }
            long difference = bestA * down - up * bestC;
            row.clear();
            row.add(bestA);
            row.add(bestC);
            row.addFraction(difference, bestC * down);
            return moreOrLess(difference);
        }

        int mostShared(Book periods, int bits, Row row) {
            fill(helps, 0);
            for (int p = 0; p < periods.size; p++) {
                if ((bits >> p & 1) == 1) {
                    helpWith(1 << p, periods.upOf(p), periods.downOf(p));
                }
            }
            int best = 0;
            for (int i = 1; i <= high - low; i++) {
                best = Integer.bitCount(at(helps, i)) > Integer.bitCount(at(helps, best)) ? i : best;
            }
            if (at(helps, best) == 0) {
                return CANNOT;
            }
            row.clear();
            row.add(at(helps, best));
            return low + best;
        }

        private void helpWith(int bit, long up, long down) {
            for (int a = low; a <= high; a++) {
                for (int b = a; b <= high; b++) {
                    if (splitFrom(low, drivenProduct(a, b, up, down)) != NONE) {
                        put(helps, a - low, at(helps, a - low) | bit);
                        put(helps, b - low, at(helps, b - low) | bit);
                    }
                }
            }
        }
    }

    /** What fits between two plates. */
    private static final class Plates {
        /** Groups of wheels led together by meshes, numbered as they come. */
        private final int[] groupOf = new int[WHEELS];
        /** Of a group those (bits) that may not share its layer. */
        private final int[] clashes = new int[WHEELS];
        private final int[] layers = new int[WHEELS];
        private int groups;

        int tellFaults(Build lump, int slack, Row row) {
            int crowded = 0;
            int stacked = 0;
            int firstV = NONE;
            int firstW = NONE;
            for (int v = 0; v < lump.wheels; v++) {
                for (int w = v + 1; w < lump.wheels; w++) {
                    boolean level = lump.depthOf(v) == lump.depthOf(w);
                    if (level && lump.crowded(v, w)) {
                        firstV = crowded == 0 ? v : firstV;
                        firstW = crowded == 0 ? w : firstW;
                        crowded++;
                    }
                    stacked += level && lump.axleOf(v) == lump.axleOf(w) ? 1 : 0;
                }
            }
            row.add(crowded);
            row.add(firstV);
            row.add(firstW);
            return crowded + tellMeshFaults(lump, NONE, row) + tellMeshFaults(lump, slack, row)
                + tellNumber(stacked, row);
        }

        private static int tellNumber(int n, Row row) {
            row.add(n);
            return n;
        }

        /** Meshes that are too near or too far by more than slack; of NONE uneven in depth. */
        private static int tellMeshFaults(Build lump, int slack, Row row) {
            int n = 0;
            int first = NONE;
            for (int m = 0; m < lump.meshes; m++) {
                if (slack == NONE ? slanting(lump, m) : misplaced(lump, m, slack)) {
                    first = n == 0 ? m : first;
                    n++;
                }
            }
            row.add(n);
            row.add(first);
            return n;
        }

        private static boolean slanting(Build lump, int m) {
            return lump.depthOf(lump.oneOf(m)) != lump.depthOf(lump.otherOf(m));
        }

        private static boolean misplaced(Build lump, int m, int slack) {
            int one = lump.oneOf(m);
            int other = lump.otherOf(m);
            long apart = lump.squareApart(lump.axleOf(one), lump.axleOf(other));
            long farthest = lump.teethOf(one) + lump.teethOf(other) + slack;
            long nearest = farthest - 2L * slack;
            return apart > farthest * farthest || nearest > 0 && apart < nearest * nearest;
        }

        boolean goesThrough(Build lump, int axle) {
            int top = NONE;
            int bottom = NONE;
            for (int w = 0; w < lump.wheels; w++) {
                if (lump.axleOf(w) == axle) {
                    top = top == NONE ? lump.depthOf(w) : Math.min(top, lump.depthOf(w));
                    bottom = Math.max(bottom, lump.depthOf(w));
                }
            }
            for (int w = 0; w < lump.wheels; w++) {
                boolean between = lump.depthOf(w) > top && lump.depthOf(w) < bottom;
                long half = lump.teethOf(w);
                boolean under = lump.squareApart(axle, lump.axleOf(w)) < half * half;
                if (lump.axleOf(w) != axle && between && under) {
                    return true;
                }
            }
            return false;
        }

        /** Groups the wheels; false if two of one group stand in each other's way. */
        boolean group(Build lump) {
            groups = 0;
            fill(groupOf, NONE);
            for (int w = 0; w < lump.wheels; w++) {
                if (at(groupOf, w) == NONE) {
                    gather(lump, w);
                    groups++;
                }
            }
            fill(clashes, 0);
            for (int v = 0; v < lump.wheels; v++) {
                for (int w = v + 1; w < lump.wheels; w++) {
                    if (lump.axleOf(v) == lump.axleOf(w) || lump.crowded(v, w)) {
                        clash(at(groupOf, v), at(groupOf, w));
                    }
                }
            }
            for (int g = 0; g < groups; g++) {
                if ((at(clashes, g) >> g & 1) == 1) {
                    return false;
                }
            }
            return true;
        }

        private void clash(int one, int other) {
            put(clashes, one, at(clashes, one) | 1 << other);
            put(clashes, other, at(clashes, other) | 1 << one);
        }

        private void gather(Build lump, int first) {
            int found = 1 << first;
            // in each pass a wheel is found at least, or none will be
            for (int pass = 0; pass < WHEELS; pass++) {
                for (int w = 0; w < lump.wheels; w++) {
                    found |= (found >> w & 1) == 1 ? lump.meshedWith(w) : 0;
                }
            }
            for (int w = 0; w < lump.wheels; w++) {
                if ((found >> w & 1) == 1) {
                    put(groupOf, w, groups);
                }
            }
        }

        /** The fewest layers; the row: the least by wheels. The groups stand. */
        int tellLayers(Build lump, Row row) {
            int fewest = fewestLayers();
            for (int g = 0; g < groups; g++) {
                int open = openTo(g, fewest);
                int behind = (1 << groups) - (2 << g);
                boolean set = false;
                for (int c = 0; c < fewest && !set; c++) {
                    if ((open >> c & 1) == 1) {
                        put(layers, g, c);
                        set = completes(this, behind, fewest, 0);
                    }
                }
            }
            row.clear();
            for (int w = 0; w < lump.wheels; w++) {
                row.add(at(layers, at(groupOf, w)));
            }
            return fewest;
        }

        /** How few layers do; no group has one after. */
        private int fewestLayers() {
            fill(layers, NONE);
            int all = (1 << groups) - 1;
            int fewest = 0;
            for (int k = 0; k < groups && !completes(this, all, fewest, 0); k++) {
                fewest++;
            }
            return fewest;
        }

        /** Layers (bits) on which a group could be; of the unused ones only the first. */
        private int openTo(int g, int most) {
            int used = 0;
            int barred = 0;
            for (int h = 0; h < groups; h++) {
                int c = at(layers, h);
                used = Math.max(used, c + 1);
                barred |= c != NONE && (at(clashes, g) >> h & 1) == 1 ? 1 << c : 0;
            }
            return (1 << Math.min(used + 1, most)) - 1 & ~barred;
        }

        /**
         * Of some groups the one that has the fewest layers open to it, of equal ones that with the
         * most clashes: so it shows soonest what can't be.
         */
        private int tightest(int some, int most) {
            int best = NONE;
            int fewest = 0;
            for (int g = 0; g < groups; g++) {
                if ((some >> g & 1) == 1) {
                    int n = Integer.bitCount(openTo(g, most)) * WHEELS - Integer.bitCount(at(clashes, g));
                    if (best == NONE || n < fewest) {
                        best = g;
                        fewest = n;
                    }
                }
            }
            return best;
        }

        /** Of some groups the first and those that clash with it, one or more clashes apart. */
        private int clashingWithFirst(int some) {
            int found = some & -some;
            int before = 0;
            for (int k = 0; k < WHEELS && found != before; k++) {
                before = found;
                for (int g = 0; g < groups; g++) {
                    found |= (found >> g & 1) == 1 ? at(clashes, g) & some : 0;
                }
            }
            return found;
        }

        /** Whether all of some groups without a layer can have one of so many; none has it after. */
        private static boolean completes(Plates plates, int some, int most, int depth) {
            int rest = some;
            for (int k = 0; k < WHEELS && rest != 0; k++) {
                // those that do not clash can't hinder one another: each lot is tried alone
                int lot = plates.clashingWithFirst(rest);
                if (!completesLot(plates, lot, most, depth)) {
                    return false;
                }
                rest &= ~lot;
            }
            return true;
        }

        private static boolean completesLot(Plates plates, int lot, int most, int depth) {
            if (depth >= WHEELS) {
                return false;
            }
            int g = plates.tightest(lot, most);
            int open = plates.openTo(g, most);
            boolean can = false;
            for (int c = 0; c < most && !can; c++) {
                if ((open >> c & 1) == 1) {
                    put(plates.layers, g, c);
                    can = completes(plates, lot & ~(1 << g), most, depth + 1);
                    put(plates.layers, g, NONE);
                }
            }
            return can;
        }
    }

    /** Eclipses on a dial of months, and games each fourth year. */
    private static final class Dial {
        private final boolean[] marks = new boolean[MONTHS];
        private final int[] seenMonths = new int[MOST_SEEN];
        private final boolean[] seenWas = new boolean[MOST_SEEN];
        private final int[] gamesYears = new int[MOST_GAMES];
        private int marked;
        private int seenSize;
        private int gamesSize;

        int mark(int month, boolean is) {
            if (month < 0 || month >= marks.length) {
                return NONE;
            }
            if (marks[month] != is) {
                marked += is ? 1 : -1;
            }
            marks[month] = is;
            return marked;
        }

        int addSeen(int month, boolean was) {
            if (month < 0 || month > 9999 || seenSize >= seenWas.length) {
                return NONE;
            }
            put(seenMonths, seenSize, month);
            seenWas[seenSize] = was;
            seenSize++;
            return seenSize;
        }

        int addGames(int year) {
            if (year < 0 || year > 999 || gamesSize >= MOST_GAMES) {
                return NONE;
            }
            put(gamesYears, gamesSize, year);
            gamesSize++;
            return gamesSize;
        }

        /** Those seen (bits) that do not stand if it was set to a month. */
        private int wrongAt(int month) {
            int bits = 0;
            for (int i = 0; i < seenSize && i < seenWas.length; i++) {
                int there = (month + at(seenMonths, i)) % MONTHS;
                boolean is = there >= 0 && there < marks.length && marks[there];
                bits |= is == seenWas[i] ? 0 : 1 << i;
            }
            return bits;
        }

        int tellMonths(Row row) {
            int n = 0;
            for (int month = 0; month < MONTHS; month++) {
                if (wrongAt(month) == 0) {
                    if (n < MONTHS_TOLD) {
                        row.add(month);
                    }
                    n++;
                }
            }
            return n;
        }

        int tellFewestWrong(Row row) {
            int best = 0;
            int fewest = Integer.bitCount(wrongAt(0));
            for (int month = 1; month < MONTHS; month++) {
                int n = Integer.bitCount(wrongAt(month));
                if (n < fewest) {
                    best = month;
                    fewest = n;
                }
            }
            row.add(best);
            row.add(wrongAt(best));
            return fewest;
        }

        int yearOfFour() {
            if (gamesSize == 0) {
                return NONE;
            }
            int first = at(gamesYears, 0) % 4;
            for (int i = 1; i < gamesSize; i++) {
                if (at(gamesYears, i) % 4 != first) {
                    return CANNOT;
                }
            }
            return (4 - first) % 4;
        }
    }

    /** What is left of wheels. */
    private static final class Remains {
        private final int[] axles = new int[MOST_LEFT];
        private final int[] levels = new int[MOST_LEFT];
        private final int[] low = new int[MOST_LEFT];
        private final int[] high = new int[MOST_LEFT];
        private int size;

        int addLeft(int axle, int depth, int least, int most) {
            if (size >= MOST_LEFT) {
                return NONE;
            }
            put(axles, size, axle);
            put(levels, size, depth);
            put(low, size, least);
            put(high, size, most);
            size++;
            return size - 1;
        }

        private boolean couldBe(Build lump, int i, int w) {
            int n = lump.teethOf(w);
            return lump.axleOf(w) == at(axles, i) && lump.depthOf(w) == at(levels, i)
                && n >= at(low, i) && n <= at(high, i);
        }

        /** The wheel of the most teeth that could be a left one; NONE if none could. */
        private int greatestFor(Build lump, int i) {
            int best = NONE;
            for (int w = 0; w < lump.wheels; w++) {
                boolean more = best == NONE || lump.teethOf(w) > lump.teethOf(best);
                best = couldBe(lump, i, w) && more ? w : best;
            }
            return best;
        }

        int broken(Build lump) {
            int bits = 0;
            for (int i = 0; i < size; i++) {
                bits |= greatestFor(lump, i) == NONE ? 1 << i : 0;
            }
            return bits;
        }

        /**
         * The fewest wheels that are all that is left, none being broken. Of those open the one
         * with the least most is taken: its greatest wheel is all open ones that any other of its
         * wheels is.
         */
        int fewestWheels(Build lump) {
            int open = (1 << size) - 1;
            int n = 0;
            for (int k = 0; k < MOST_LEFT && open != 0; k++) {
                int w = greatestFor(lump, tightest(open));
                for (int i = 0; i < size; i++) {
                    open &= couldBe(lump, i, w) ? ~(1 << i) : ~0;
                }
                n++;
            }
            return n;
        }

        private int tightest(int open) {
            int best = NONE;
            for (int i = 0; i < size; i++) {
                boolean less = best == NONE || at(high, i) < at(high, best);
                best = (open >> i & 1) == 1 && less ? i : best;
            }
            return best;
        }
    }
}
