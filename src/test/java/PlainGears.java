import java.math.BigInteger;
import java.util.ArrayList;
import java.util.Arrays;
import java.util.List;
import java.util.NoSuchElementException;
import java.util.TreeSet;

/** The document told once more, slowly and with the Java library: what random runs are held against. */
final class PlainGears {
    record Frac(BigInteger up, BigInteger down) {
        static Frac of(BigInteger up, BigInteger down) {
            BigInteger g = up.gcd(down);
            return down.signum() < 0 ? new Frac(up.negate().divide(g), down.negate().divide(g))
                : new Frac(up.divide(g), down.divide(g));
        }

        static Frac of(long up, long down) {
            return of(BigInteger.valueOf(up), BigInteger.valueOf(down));
        }

        Frac times(Frac b) {
            return of(up.multiply(b.up), down.multiply(b.down));
        }

        Frac less(Frac b) {
            return of(up.multiply(b.down).subtract(b.up.multiply(down)), down.multiply(b.down));
        }

        Frac size() {
            return new Frac(up.abs(), down);
        }

        int compare(Frac b) {
            return up.multiply(b.down).compareTo(b.up.multiply(down));
        }

        boolean above(long limit) {
            BigInteger most = BigInteger.valueOf(limit);
            return up.abs().compareTo(most) > 0 || down.compareTo(most) > 0;
        }
    }

    record Wheel(int least, int most, int taken, int axle, int depth) {
        Wheel taking(int n) {
            return new Wheel(least, most, n, axle, depth);
        }
    }

    record Mesh(int one, int other) {
        boolean of(int v, int w) {
            return one == v && other == w || one == w && other == v;
        }
    }

    record Period(int up, int down, char name) {
        Frac ratio() {
            return Frac.of(up, down);
        }
    }

    record Left(int axle, int depth, int low, int high) {
    }

    record Seen(int month, boolean was) {
    }

    record Kept(List<Wheel> wheels, List<Mesh> meshes, int[][] places) {
    }

    private List<Wheel> wheels = new ArrayList<>();
    private List<Mesh> meshes = new ArrayList<>();
    private int[][] places = new int[10][2];
    private List<Period> book = new ArrayList<>();
    private String text = "";
    private int low = 15;
    private int high = 120;
    private final boolean[] marks = new boolean[223];
    private final List<Seen> seen = new ArrayList<>();
    private final List<Integer> games = new ArrayList<>();
    private final List<Left> left = new ArrayList<>();
    private final Kept[] kept = new Kept[4];
    private List<Long> row = new ArrayList<>();

    private void tell(long... numbers) {
        row = new ArrayList<>();
        for (long n : numbers) {
            row.add(n);
        }
    }

    private void tell(Frac f) {
        tell(f.up.longValueExact(), f.down.longValueExact());
    }

    private boolean noWheel(int w) {
        return w < 0 || w >= wheels.size();
    }

    private boolean noAxle(int a) {
        return a < 0 || a > 9;
    }

    private boolean noPeriod(int p) {
        return p < 0 || p >= book.size();
    }

    int wheel(int least, int most, int axle, int depth) {
        if (least < 10 || most > 400 || least > most || noAxle(axle) || depth < 0 || depth > 9 || wheels.size() == 14) {
            return -1;
        }
        wheels.add(new Wheel(least, most, least, axle, depth));
        return wheels.size() - 1;
    }

    int arc(int wheel, int seen, int tenths, int slack) {
        if (noWheel(wheel) || seen < 1 || seen > 200 || tenths < 1 || tenths > 3600 || slack < 0 || slack > 100
            || slack >= tenths) {
            return -1;
        }
        Wheel w = wheels.get(wheel);
        int least = 0;
        int most = 0;
        for (int n = w.least; n <= w.most; n++) {
            // n teeth on 3600 tenths: so many seen could stand on seen * 3600 / n tenths
            boolean can = (long) n * (tenths + slack) >= 3600L * seen && (long) n * (tenths - slack) <= 3600L * seen;
            if (can) {
                least = least == 0 ? n : least;
                most = n;
            }
        }
        if (least == 0) {
            return -2;
        }
        wheels.set(wheel, new Wheel(least, most, least, w.axle, w.depth));
        return most - least + 1;
    }

    int take(int wheel, int n) {
        if (noWheel(wheel) || n < wheels.get(wheel).least || n > wheels.get(wheel).most) {
            return -1;
        }
        int before = wheels.get(wheel).taken;
        wheels.set(wheel, wheels.get(wheel).taking(n));
        return before;
    }

    int sheet(int kind, int n, int f, int step) {
        if (kind < 0 || kind > 3 || n > 14) {
            return -1;
        }
        if (kind == 3) {
            wheels.replaceAll(w -> w.taking(w.least));
            return -3;
        }
        if (n < 0) {
            return -2;
        }
        int v = f;
        int told = 0;
        for (int i = 0; i < n; i++, v += step) {
            if (i < wheels.size()) {
                Wheel w = wheels.get(i);
                int entry = kind == 0 ? (byte) v : kind == 1 ? (short) v : v;
                wheels.set(i, w.taking(entry < w.least ? w.least : entry > w.most ? w.most : entry));
                told++;
            }
        }
        return told;
    }

    int mesh(int one, int other) {
        if (noWheel(one) || noWheel(other) || wheels.get(one).axle == wheels.get(other).axle || meshes.size() == 16) {
            return -1;
        }
        if (meshing(one, other)) {
            return -1;
        }
        meshes.add(new Mesh(one, other));
        return meshes.size();
    }

    private boolean meshing(int v, int w) {
        return meshes.stream().anyMatch(m -> m.of(v, w));
    }

    int part() {
        if (meshes.isEmpty()) {
            return -1;
        }
        meshes.remove(meshes.size() - 1);
        return meshes.size();
    }

    int of(int wheel, int what) {
        if (noWheel(wheel) || what < 0 || what > 5) {
            throw new NoSuchElementException();
        }
        Wheel w = wheels.get(wheel);
        int bits = 0;
        for (int v = 0; v < wheels.size(); v++) {
            bits |= meshing(v, wheel) ? 1 << v : 0;
        }
        return new int[] {w.least, w.most, w.taken, w.axle, w.depth, bits}[what];
    }

    /** Turns by the meshes; what stands in state[0] then: 0, -3, -5. */
    private Frac[] turns(List<Mesh> by, int[] state) {
        Frac[] turns = new Frac[10];
        turns[0] = Frac.of(1, 1);
        state[0] = 0;
        boolean more = true;
        while (more) {
            more = false;
            for (Mesh m : by) {
                int a = wheels.get(m.one).axle;
                int b = wheels.get(m.other).axle;
                if (turns[a] != null && turns[b] == null) {
                    turns[b] = turns[a].times(Frac.of(-wheels.get(m.one).taken, wheels.get(m.other).taken));
                    more = true;
                    state[0] = turns[b].above(1000000000000000L) ? -5 : state[0];
                } else if (turns[b] != null && turns[a] == null) {
                    turns[a] = turns[b].times(Frac.of(-wheels.get(m.other).taken, wheels.get(m.one).taken));
                    more = true;
                    state[0] = turns[a].above(1000000000000000L) ? -5 : state[0];
                }
            }
        }
        for (Mesh m : by) {
            Frac a = turns[wheels.get(m.one).axle];
            Frac b = turns[wheels.get(m.other).axle];
            if (a != null && state[0] == 0) {
                Frac due = a.times(Frac.of(-wheels.get(m.one).taken, wheels.get(m.other).taken));
                state[0] = due.equals(b) ? 0 : -3;
            }
        }
        return turns;
    }

    private int stateOf(int axle, long limit) {
        if (noAxle(axle)) {
            return -1;
        }
        int[] state = new int[1];
        Frac[] turns = turns(meshes, state);
        if (state[0] != 0) {
            return state[0];
        }
        if (turns[axle] == null) {
            return -2;
        }
        return turns[axle].above(limit) ? -5 : 0;
    }

    private Frac turnOf(int axle) {
        return turns(meshes, new int[1])[axle];
    }

    int turn(int axle) {
        int state = stateOf(axle, Long.MAX_VALUE);
        if (state == 0) {
            tell(turnOf(axle));
        }
        return state;
    }

    int turning() {
        int[] state = new int[1];
        Frac[] turns = turns(meshes, state);
        if (state[0] != 0) {
            return state[0];
        }
        int all = 0;
        int forward = 0;
        for (int a = 0; a < 10; a++) {
            if (turns[a] != null) {
                all += 1 << a;
                forward += turns[a].up.signum() > 0 ? 1 << a : 0;
            }
        }
        tell(forward);
        return all;
    }

    int jams() {
        int[] state = new int[1];
        turns(meshes, state);
        if (state[0] != -3) {
            return state[0];
        }
        int bits = 0;
        boolean tooLong = false;
        for (int m = 0; m < meshes.size(); m++) {
            List<Mesh> others = new ArrayList<>(meshes);
            others.remove(m);
            turns(others, state);
            bits |= state[0] == 0 ? 1 << m : 0;
            tooLong |= state[0] == -5;
        }
        return tooLong ? -5 : bits;
    }

    int gives(int axle) {
        int state = stateOf(axle, Long.MAX_VALUE);
        if (state != 0) {
            return state;
        }
        int size = 0;
        int same = 0;
        for (int p = 0; p < book.size(); p++) {
            size |= turnOf(axle).size().equals(book.get(p).ratio()) ? 1 << p : 0;
            same |= turnOf(axle).equals(book.get(p).ratio()) ? 1 << p : 0;
        }
        tell(same);
        return size;
    }

    int show(int axle, int years) {
        if (years < 0 || years > 2000) {
            return -1;
        }
        int state = stateOf(axle, 1000000000);
        if (state == 0) {
            Frac f = turnOf(axle).size().times(Frac.of(years, 1));
            tell(Frac.of(f.up.mod(f.down), f.down));
        }
        return state;
    }

    int together(int one, int other) {
        if (noAxle(one) || noAxle(other)) {
            return -1;
        }
        int a = stateOf(one, 1000000000);
        int b = stateOf(other, 1000000000);
        if (a == -2 || b == -2) {
            return -2;
        }
        if (a != 0 || b != 0) {
            return a != 0 ? a : b;
        }
        Frac apart = turnOf(one).less(turnOf(other));
        if (apart.down.compareTo(BigInteger.valueOf(100000)) > 0) {
            return -6;
        }
        // the lower number of a fraction in lowest terms is the first that makes it whole
        Frac gone = apart.times(Frac.of(apart.down, BigInteger.ONE));
        tell(gone.up.longValueExact());
        return apart.down.intValueExact();
    }

    /** All shortest ways are told by meshes; the least of them. */
    private List<Integer> wayTo(int axle) {
        List<Integer> best = null;
        List<List<Integer>> ways = new ArrayList<>();
        ways.add(List.of());
        for (int n = 0; n < 10 && best == null; n++) {
            List<List<Integer>> longer = new ArrayList<>();
            for (List<Integer> way : ways) {
                TreeSet<Integer> met = new TreeSet<>();
                int here = 0;
                met.add(0);
                for (int m : way) {
                    here = across(m, here);
                    met.add(here);
                }
                if (here == axle && best == null) {
                    best = way;
                }
                for (int m = 0; m < meshes.size(); m++) {
                    int there = across(m, here);
                    if (there >= 0 && !met.contains(there)) {
                        List<Integer> more = new ArrayList<>(way);
                        more.add(m);
                        longer.add(more);
                    }
                }
            }
            ways = longer;
        }
        return best;
    }

    private int across(int m, int axle) {
        int a = wheels.get(meshes.get(m).one).axle;
        int b = wheels.get(meshes.get(m).other).axle;
        return a == axle ? b : b == axle ? a : -1;
    }

    int way(int axle) {
        if (noAxle(axle) || axle == 0) {
            return -1;
        }
        List<Integer> way = wayTo(axle);
        if (way == null) {
            return -2;
        }
        tell(way.stream().mapToLong(m -> m).toArray());
        return way.size();
    }

    private int[] wheelsOn(List<Integer> way) {
        TreeSet<Integer> on = new TreeSet<>();
        for (int m : way) {
            on.add(meshes.get(m).one);
            on.add(meshes.get(m).other);
        }
        return on.stream().mapToInt(w -> w).toArray();
    }

    private boolean many(int[] on) {
        BigInteger ways = BigInteger.ONE;
        for (int w : on) {
            ways = ways.multiply(BigInteger.valueOf(wheels.get(w).most - wheels.get(w).least + 1));
        }
        return ways.compareTo(BigInteger.valueOf(200000)) > 0;
    }

    private List<int[]> fittingsOn(List<Integer> way, int[] on, Period period) {
        List<int[]> all = new ArrayList<>();
        int[] teeth = new int[14];
        for (int w : on) {
            teeth[w] = wheels.get(w).least;
        }
        boolean more = true;
        while (more) {
            BigInteger up = BigInteger.valueOf(period.down);
            BigInteger down = BigInteger.valueOf(period.up);
            int here = 0;
            for (int m : way) {
                Mesh mesh = meshes.get(m);
                boolean first = wheels.get(mesh.one).axle == here;
                up = up.multiply(BigInteger.valueOf(teeth[first ? mesh.one : mesh.other]));
                down = down.multiply(BigInteger.valueOf(teeth[first ? mesh.other : mesh.one]));
                here = across(m, here);
            }
            if (up.equals(down)) {
                all.add(teeth.clone());
            }
            int i = on.length - 1;
            while (i >= 0 && teeth[on[i]] == wheels.get(on[i]).most) {
                teeth[on[i]] = wheels.get(on[i]).least;
                i--;
            }
            more = i >= 0;
            if (more) {
                teeth[on[i]]++;
            }
        }
        return all;
    }

    /** The fittings, or null with why not in state[0]. */
    private List<int[]> fittingsTo(int axle, int period, int[] state) {
        state[0] = -1;
        if (noAxle(axle) || axle == 0 || noPeriod(period)) {
            return null;
        }
        List<Integer> way = wayTo(axle);
        state[0] = -2;
        if (way == null) {
            return null;
        }
        int[] on = wheelsOn(way);
        state[0] = -4;
        if (many(on)) {
            return null;
        }
        state[0] = 0;
        return fittingsOn(way, on, book.get(period));
    }

    int fittings(int axle, int period) {
        int[] state = new int[1];
        List<int[]> all = fittingsTo(axle, period, state);
        if (all == null) {
            return state[0];
        }
        tell();
        if (!all.isEmpty()) {
            for (int w : wheelsOn(wayTo(axle))) {
                row.add((long) all.get(0)[w]);
            }
        }
        return all.size();
    }

    boolean fit(int axle, int period, int i) {
        List<int[]> all = fittingsTo(axle, period, new int[1]);
        if (all == null || i < 0 || i >= all.size()) {
            return false;
        }
        for (int w : wheelsOn(wayTo(axle))) {
            wheels.set(w, wheels.get(w).taking(all.get(i)[w]));
        }
        return true;
    }

    int sure(int axle, int period, int wheel) {
        int[] state = new int[1];
        List<int[]> all = fittingsTo(axle, period, state);
        if (state[0] == -1 || state[0] == -2) {
            return state[0];
        }
        if (Arrays.stream(wheelsOn(wayTo(axle))).noneMatch(w -> w == wheel)) {
            return -1;
        }
        if (all == null || all.isEmpty()) {
            return all == null ? state[0] : -2;
        }
        TreeSet<Integer> teeth = new TreeSet<>();
        for (int[] one : all) {
            teeth.add(one[wheel]);
        }
        tell(teeth.first(), teeth.last(), teeth.size());
        return 0;
    }

    int may(int axle) {
        if (noAxle(axle) || axle == 0) {
            return -1;
        }
        if (wayTo(axle) == null) {
            return -2;
        }
        int bits = 0;
        for (int p = 0; p < book.size(); p++) {
            int[] state = new int[1];
            List<int[]> all = fittingsTo(axle, p, state);
            if (all == null) {
                return state[0];
            }
            bits |= all.isEmpty() ? 0 : 1 << p;
        }
        return bits;
    }

    int next(int axle, int period) {
        int[] state = new int[1];
        List<int[]> all = fittingsTo(axle, period, state);
        if (all == null || all.isEmpty()) {
            return all == null ? state[0] : -2;
        }
        int best = -1;
        int fewest = 0;
        for (int w : wheelsOn(wayTo(axle))) {
            int[] times = new int[401];
            for (int[] one : all) {
                times[one[w]]++;
            }
            int worst = Arrays.stream(times).max().getAsInt();
            if (best < 0 || worst < fewest) {
                best = w;
                fewest = worst;
            }
        }
        tell(fewest);
        return best;
    }

    int sign(int v) {
        if (text.length() > 76) {
            return -1;
        }
        text += "" + (char) (v >>> 24) + (char) (v >>> 16 & 255) + (char) (v >>> 8 & 255) + (char) (v & 255);
        return text.length();
    }

    boolean end(int n) {
        if (n < 0 || n > text.length()) {
            return false;
        }
        text = text.substring(0, n);
        return true;
    }

    int book() {
        String all = text;
        text = "";
        String first = all.substring(0, Math.min(60, all.length()));
        int bad = 1000;
        for (int p = 0; p < first.length() && bad == 1000; p++) {
            String line = "[0-9]{1,4}:[0-9]{1,4}[a-z]?";
            String begun = "[0-9]{0,4}|[0-9]{1,4}:[0-9]{0,4}[a-z]?";
            String part = first.substring(0, p + 1);
            boolean stands = part.matches("(" + line + ";){0,7}(" + begun + ")") && !part.matches("(.*;)?[0-9]*:[a-z]");
            bad = stands ? bad : p;
        }
        String[] runs = first.split("[^0-9]", -1);
        int p = 0;
        for (String run : runs) {
            String number = run.substring(0, Math.min(4, run.length()));
            if (!number.isEmpty() && (Integer.parseInt(number) == 0 || Integer.parseInt(number) > 2000)) {
                bad = Math.min(bad, p + number.length() - 1);
            }
            p += run.length() + 1;
        }
        if (bad < 1000) {
            return -1 - bad;
        }
        if (all.length() > 60) {
            return -61;
        }
        if (!all.isEmpty() && !all.matches(".*[0-9]:[0-9]+[a-z]?")) {
            return -1 - all.length();
        }
        book = new ArrayList<>();
        for (String line : all.isEmpty() ? new String[0] : all.split(";")) {
            char last = line.charAt(line.length() - 1);
            boolean named = Character.isLetter(last);
            String[] numbers = (named ? line.substring(0, line.length() - 1) : line).split(":");
            book.add(new Period(Integer.parseInt(numbers[0]), Integer.parseInt(numbers[1]), named ? last : 0));
        }
        return book.size();
    }

    boolean shop(int low, int high) {
        if (low < 10 || high > 400 || low > high || high > low + 200) {
            return false;
        }
        this.low = low;
        this.high = high;
        return true;
    }

    int trains(int period, int k) {
        if (noPeriod(period) || k < 1 || k > 2) {
            return -1;
        }
        if (k == 2 && high > low + 60) {
            return -4;
        }
        List<int[]> all = k == 1 ? shortTrains(book.get(period)) : longTrains(book.get(period));
        int[] best = null;
        for (int[] one : all) {
            int sum = Arrays.stream(one).sum();
            boolean ahead = best == null || sum < Arrays.stream(best).sum();
            if (!ahead && sum == Arrays.stream(best).sum()) {
                ahead = Arrays.compare(one, best) < 0;
            }
            best = ahead ? one : best;
        }
        tell(best == null ? new long[0] : Arrays.stream(best).mapToLong(n -> n).toArray());
        return all.size();
    }

    private List<int[]> shortTrains(Period period) {
        List<int[]> all = new ArrayList<>();
        for (int a = low; a <= high; a++) {
            for (int c = low; c <= high; c++) {
                if (a * period.down == c * period.up) {
                    all.add(new int[] {a, c});
                }
            }
        }
        return all;
    }

    private List<int[]> longTrains(Period period) {
        List<int[]> all = new ArrayList<>();
        for (int c = low; c <= high; c++) {
            for (int e = c; e <= high; e++) {
                long due = (long) c * e * period.up;
                for (int b = low; b <= high; b++) {
                    // a is what is left to make the ratio
                    long each = (long) b * period.down;
                    if (due % each == 0 && due / each >= low && due / each <= b) {
                        all.add(new int[] {(int) (due / each), b, c, e});
                    }
                }
            }
        }
        return all;
    }

    int nearest(int period) {
        if (noPeriod(period)) {
            return -1;
        }
        Frac due = book.get(period).ratio();
        int bestA = 0;
        int bestC = 0;
        Frac least = null;
        for (int sum = 2 * low; sum <= 2 * high; sum++) {
            for (int a = Math.max(low, sum - high); a <= high && sum - a >= low; a++) {
                Frac apart = Frac.of(a, sum - a).less(due);
                if (least == null || apart.size().compare(least.size()) < 0) {
                    bestA = a;
                    bestC = sum - a;
                    least = apart;
                }
            }
        }
        tell(bestA, bestC, least.up.longValueExact(), least.down.longValueExact());
        return least.up.signum() == 0 ? 0 : least.up.signum() > 0 ? 1 : 2;
    }

    int common(int periods) {
        if (periods <= 0 || periods >= 1 << book.size()) {
            return -1;
        }
        if (high > low + 60) {
            return -4;
        }
        int[] helps = new int[401];
        for (int p = 0; p < book.size(); p++) {
            if ((periods & 1 << p) != 0) {
                for (int[] train : longTrains(book.get(p))) {
                    helps[train[0]] |= 1 << p;
                    helps[train[1]] |= 1 << p;
                }
            }
        }
        int best = 0;
        for (int n = low; n <= high; n++) {
            best = Integer.bitCount(helps[n]) > Integer.bitCount(helps[best]) ? n : best;
        }
        if (best == 0) {
            return -2;
        }
        tell(helps[best]);
        return best;
    }

    boolean axle(int axle, int x, int y) {
        if (noAxle(axle) || Math.abs((long) x) > 500 || Math.abs((long) y) > 500) {
            return false;
        }
        places[axle] = new int[] {x, y};
        return true;
    }

    private int square(int a, int b) {
        int dx = places[a][0] - places[b][0];
        int dy = places[a][1] - places[b][1];
        return dx * dx + dy * dy;
    }

    private boolean crowded(Wheel v, Wheel w) {
        return square(v.axle, w.axle) < (v.taken + w.taken) * (v.taken + w.taken);
    }

    int room(int slack) {
        if (slack < 0 || slack > 50) {
            return -1;
        }
        long[] told = {0, -1, -1, 0, -1, 0, -1, 0};
        for (int i = 0; i < wheels.size(); i++) {
            for (int j = i + 1; j < wheels.size(); j++) {
                Wheel v = wheels.get(i);
                Wheel w = wheels.get(j);
                if (v.depth != w.depth) {
                    continue;
                }
                if (v.axle == w.axle) {
                    told[7]++;
                } else if (!meshing(i, j) && crowded(v, w) && told[0]++ == 0) {
                    told[1] = i;
                    told[2] = j;
                }
            }
        }
        for (int m = 0; m < meshes.size(); m++) {
            Wheel v = wheels.get(meshes.get(m).one);
            Wheel w = wheels.get(meshes.get(m).other);
            if (v.depth != w.depth && told[3]++ == 0) {
                told[4] = m;
            }
            int both = v.taken + w.taken;
            // both + slack is nearer than the axles, or the axles and slack together do not reach
            boolean far = square(v.axle, w.axle) > (both + slack) * (both + slack);
            boolean near = both > slack && square(v.axle, w.axle) < (both - slack) * (both - slack);
            if ((far || near) && told[5]++ == 0) {
                told[6] = m;
            }
        }
        tell(told);
        return (int) (told[0] + told[3] + told[5] + told[7]);
    }

    int pierced() {
        int bits = 0;
        for (int a = 0; a < 10; a++) {
            for (Wheel up : wheels) {
                for (Wheel down : wheels) {
                    for (Wheel w : wheels) {
                        boolean goes = up.axle == a && down.axle == a && up.depth < w.depth && w.depth < down.depth;
                        if (goes && w.axle != a && square(a, w.axle) < w.taken * w.taken) {
                            bits |= 1 << a;
                        }
                    }
                }
            }
        }
        return bits;
    }

    int depths() {
        int n = wheels.size();
        boolean[][] led = new boolean[n][n];
        boolean[][] barred = new boolean[n][n];
        for (int v = 0; v < n; v++) {
            for (int w = 0; w < n; w++) {
                led[v][w] = v == w || meshing(v, w);
                boolean sameAxle = v != w && wheels.get(v).axle == wheels.get(w).axle;
                barred[v][w] = sameAxle || v != w && !meshing(v, w) && crowded(wheels.get(v), wheels.get(w));
            }
        }
        for (int k = 0; k < n; k++) {
            for (int v = 0; v < n; v++) {
                for (int w = 0; w < n; w++) {
                    led[v][w] |= led[v][k] && led[k][w];
                }
            }
        }
        for (int v = 0; v < n; v++) {
            for (int w = 0; w < n; w++) {
                if (led[v][w] && barred[v][w]) {
                    return -2;
                }
            }
        }
        for (int k = 0; k <= n; k++) {
            int[] on = new int[n];
            if (laid(on, 0, 0, k, led, barred)) {
                tell(Arrays.stream(on).mapToLong(d -> d).toArray());
                return k;
            }
        }
        throw new AssertionError("as many depths as wheels are enough");
    }

    private boolean laid(int[] on, int w, int used, int most, boolean[][] led, boolean[][] barred) {
        if (w == on.length) {
            return true;
        }
        for (int d = 0; d <= used && d < most; d++) {
            boolean can = true;
            for (int v = 0; v < w; v++) {
                can &= !(led[v][w] && on[v] != d) && !(barred[v][w] && on[v] == d);
            }
            on[w] = d;
            if (can && laid(on, w + 1, Math.max(used, d + 1), most, led, barred)) {
                return true;
            }
        }
        return false;
    }

    int slot(int a, int b, int c, int d) {
        if (a < 0 || a > 99 || b <= a || b > 100 || d < 1 || d > 20 || c < -d || c > d) {
            return -1;
        }
        Frac e = Frac.of(a, b);
        Frac f = Frac.of(c, d);
        Frac one = Frac.of(1, 1);
        Frac up = one.less(e.times(f));
        Frac down = one.less(e.times(f).times(Frac.of(2, 1))).less(e.times(e).times(Frac.of(-1, 1)));
        Frac speed = up.times(Frac.of(down.down, down.up));
        tell(speed);
        int than = speed.compare(one);
        return than == 0 ? 0 : than > 0 ? 1 : 2;
    }

    int uneven(int u, int d) {
        if (u < 1 || u > 1000 || d < 1 || d > 1000 || u < d) {
            return -1;
        }
        int best = 0;
        Frac least = null;
        Frac ratio = null;
        for (int a = 0; a < 100; a++) {
            slot(a, 100, 1, 1);
            Frac fast = Frac.of(row.get(0), row.get(1));
            slot(a, 100, -1, 1);
            Frac here = fast.times(Frac.of(row.get(1), row.get(0)));
            Frac apart = here.less(Frac.of(u, d)).size();
            if (least == null || apart.compare(least) < 0) {
                best = a;
                least = apart;
                ratio = here;
            }
        }
        tell(ratio);
        return best;
    }

    int near(int axle, int period, int years) {
        if (noPeriod(period) || years < 0 || years > 2000) {
            return -1;
        }
        int state = stateOf(axle, 1000000000);
        if (state != 0) {
            return state;
        }
        Frac ahead = turnOf(axle).size().less(book.get(period).ratio()).times(Frac.of(years, 1));
        tell(ahead);
        return ahead.up.signum() == 0 ? 0 : ahead.up.signum() > 0 ? 1 : 2;
    }

    int off(int axle, int period, int k) {
        if (noPeriod(period) || k < 0 || k > 360) {
            return -1;
        }
        int state = stateOf(axle, 1000000000);
        if (state != 0) {
            return state;
        }
        Frac ahead = turnOf(axle).size().less(book.get(period).ratio()).size();
        for (int year = 0; year <= 2000; year++) {
            if (ahead.times(Frac.of(year, 1)).compare(Frac.of(k, 360)) > 0) {
                return year;
            }
        }
        return -6;
    }

    int meets(int periods) {
        if (periods <= 0 || periods >= 1 << book.size()) {
            return -1;
        }
        BigInteger years = BigInteger.ONE;
        for (int p = 0; p < book.size(); p++) {
            if ((periods & 1 << p) != 0) {
                BigInteger down = book.get(p).ratio().down;
                years = years.multiply(down).divide(years.gcd(down));
            }
        }
        if (years.compareTo(BigInteger.valueOf(1000000)) > 0) {
            return -2;
        }
        tell();
        for (int p = 0; p < book.size(); p++) {
            if ((periods & 1 << p) != 0) {
                row.add(years.longValueExact() * book.get(p).up / book.get(p).down);
            }
        }
        return years.intValueExact();
    }

    int word(int what) {
        String word = text;
        text = "";
        if (what != 0 && what != 1) {
            return -1;
        }
        if (word.isEmpty()) {
            return -100;
        }
        for (int p = 0; p < word.length(); p++) {
            if (p > 3 || "0123456789?".indexOf(word.charAt(p)) < 0) {
                return -100 - p;
            }
        }
        String form = word.replace("?", "[0-9]");
        int bits = 0;
        for (int p = 0; p < book.size(); p++) {
            int n = what == 0 ? book.get(p).down : book.get(p).up;
            bits |= ("" + n).matches(form) ? 1 << p : 0;
        }
        int all = 0;
        for (int n = 1; n <= 2000; n++) {
            all += ("" + n).matches(form) ? 1 : 0;
        }
        tell(all);
        return bits;
    }

    int names() {
        String named = text;
        text = "";
        if (named.isEmpty()) {
            return -100;
        }
        for (int p = 0; p < named.length(); p++) {
            boolean stands = named.charAt(p) == '?' || named.charAt(p) >= 'a' && named.charAt(p) <= 'z';
            if (p > 7 || !stands) {
                return -100 - p;
            }
        }
        List<int[]> ways = new ArrayList<>();
        name(named, 0, new int[named.length()], ways);
        if (!ways.isEmpty()) {
            tell(Arrays.stream(ways.get(0)).mapToLong(p -> p).toArray());
        }
        return ways.size();
    }

    private void name(String named, int sign, int[] way, List<int[]> ways) {
        if (sign == way.length) {
            ways.add(way.clone());
            return;
        }
        for (int p = 0; p < book.size(); p++) {
            boolean free = true;
            for (int s = 0; s < sign; s++) {
                free &= way[s] != p;
            }
            if (free && (named.charAt(sign) == '?' || named.charAt(sign) == book.get(p).name)) {
                way[sign] = p;
                name(named, sign + 1, way, ways);
            }
        }
    }

    int dial(int month, boolean is) {
        if (month < 0 || month > 222) {
            return -1;
        }
        marks[month] = is;
        return count(3);
    }

    int seen(int month, boolean was) {
        if (month < 0 || month > 9999 || seen.size() == 20) {
            return -1;
        }
        seen.add(new Seen(month, was));
        return seen.size();
    }

    int games(int year) {
        if (year < 0 || year > 999 || games.size() == 8) {
            return -1;
        }
        games.add(year);
        return games.size();
    }

    private int wrongAt(int set) {
        int bits = 0;
        for (int i = 0; i < seen.size(); i++) {
            bits |= marks[(set + seen.get(i).month) % 223] != seen.get(i).was ? 1 << i : 0;
        }
        return bits;
    }

    int when() {
        tell();
        int n = 0;
        for (int set = 0; set < 223; set++) {
            if (wrongAt(set) == 0 && n++ < 10) {
                row.add((long) set);
            }
        }
        return n;
    }

    int wrong() {
        for (int n = 0; n <= 20; n++) {
            for (int set = 0; set < 223; set++) {
                if (Integer.bitCount(wrongAt(set)) == n) {
                    tell(set, wrongAt(set));
                    return n;
                }
            }
        }
        throw new AssertionError("at most 20 were seen");
    }

    int year() {
        if (games.isEmpty()) {
            return -1;
        }
        for (int set = 0; set < 4; set++) {
            boolean all = true;
            for (int year : games) {
                all &= (set + year) % 4 == 0;
            }
            if (all) {
                return set;
            }
        }
        return -2;
    }

    int left(int axle, int depth, int low, int high) {
        if (noAxle(axle) || depth < 0 || depth > 9 || low < 10 || high > 400 || low > high || left.size() == 12) {
            return -1;
        }
        left.add(new Left(axle, depth, low, high));
        return left.size() - 1;
    }

    private static boolean is(Left l, Wheel w) {
        return l.axle == w.axle && l.depth == w.depth && l.low <= w.taken && w.taken <= l.high;
    }

    private int broken(List<Wheel> build) {
        int bits = 0;
        for (int i = 0; i < left.size(); i++) {
            Left l = left.get(i);
            bits |= build.stream().noneMatch(w -> is(l, w)) ? 1 << i : 0;
        }
        return bits;
    }

    int breaks() {
        int bits = broken(wheels);
        int fewest = -1;
        for (int some = 0; some < 1 << wheels.size(); some++) {
            List<Wheel> chosen = new ArrayList<>();
            for (int w = 0; w < wheels.size(); w++) {
                if ((some & 1 << w) != 0) {
                    chosen.add(wheels.get(w));
                }
            }
            if ((fewest < 0 || chosen.size() < fewest) && broken(chosen) == 0) {
                fewest = chosen.size();
            }
        }
        tell(fewest);
        return bits;
    }

    boolean keep(int i) {
        if (i < 0 || i > 3) {
            return false;
        }
        kept[i] = new Kept(new ArrayList<>(wheels), new ArrayList<>(meshes), Arrays.stream(places).map(int[]::clone).toArray(int[][]::new));
        return true;
    }

    boolean again(int i) {
        if (i < 0 || i > 3 || kept[i] == null) {
            return false;
        }
        wheels = new ArrayList<>(kept[i].wheels);
        meshes = new ArrayList<>(kept[i].meshes);
        places = Arrays.stream(kept[i].places).map(int[]::clone).toArray(int[][]::new);
        return true;
    }

    int unlike(int one, int other) {
        if (one < 0 || one > 3 || other < 0 || other > 3 || kept[one] == null || kept[other] == null) {
            return -1;
        }
        int bits = 0;
        for (int w = 0; w < 14; w++) {
            bits |= lookOf(kept[one], w).equals(lookOf(kept[other], w)) ? 0 : 1 << w;
        }
        tell(bits, broken(kept[one].wheels), broken(kept[other].wheels));
        return Integer.bitCount(bits);
    }

    private static List<Integer> lookOf(Kept build, int w) {
        if (w >= build.wheels.size()) {
            return List.of();
        }
        Wheel wheel = build.wheels.get(w);
        return List.of(wheel.taken, wheel.axle, wheel.depth);
    }

    int count(int what) {
        int marked = 0;
        for (boolean mark : marks) {
            marked += mark ? 1 : 0;
        }
        int[] all = {wheels.size(), meshes.size(), book.size(), marked, seen.size(), games.size(), left.size(), row.size(), text.length(), low, high};
        return what < 0 || what >= all.length ? -1 : all[what];
    }

    long row(int i) {
        if (i < 0 || i >= row.size()) {
            throw new NoSuchElementException();
        }
        return row.get(i);
    }
}
