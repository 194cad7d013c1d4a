import java.lang.reflect.InvocationTargetException;
import java.lang.reflect.Method;
import java.util.ArrayList;
import java.util.HashMap;
import java.util.List;
import java.util.Map;
import java.util.NoSuchElementException;
import java.util.Random;
import java.util.TreeMap;

/**
 * Runs made by numbers that are always the same: GreenGears has to answer as PlainGears does.
 * An argument tells another number of runs, and to print which answers they met.
 */
public final class RandomRunsTest {
    private static final int RUNS = 1600;
    private static final int CALLS = 320;
    private static final Map<String, Method> OF_GEARS = methodsOf(GreenGears.class);
    private static final Map<String, Method> OF_PLAIN = methodsOf(PlainGears.class);
    private static final int[] ROUND = {10, 12, 15, 16, 20, 24, 30, 32, 36, 40, 48, 60, 64, 96};
    private static final int[] PRIME = {397, 389, 383, 379, 373, 367, 359, 353, 349, 347, 337, 331, 317, 313};
    private static final String[] LINES = {"2:1", "1:1", "3:2a", "254:19", "235:19b", "1:2c", "4:3", "12:5a", "5:12",
        "64:19", "1:1997z", "1999:1999", "2000:1999", "0012:0005", "223:1", "1:999", "1000:999", "3:1"};

    private final Random random;
    private final int flavour;
    private final GreenGears gears = new GreenGears();
    private final PlainGears plain = new PlainGears();
    private final List<String> log = new ArrayList<>();
    private final Map<String, Integer> met;
    private int calls;

    private RandomRunsTest(int seed, Map<String, Integer> met) {
        random = new Random(seed);
        flavour = seed % 8;
        this.met = met;
    }

    public static void main(String[] args) {
        Map<String, Integer> met = new TreeMap<>();
        int runs = args.length > 0 ? Integer.parseInt(args[0]) : RUNS;
        for (int seed = 0; seed < runs; seed++) {
            new RandomRunsTest(seed, met).go();
        }
        boolean all = true;
        for (String due : DUE) {
            if (met.getOrDefault(due, 0) < 5) {
                System.out.println("the runs hardly meet " + due + ": " + met.getOrDefault(due, 0));
                all = false;
            }
        }
        if (args.length > 0) {
            System.out.println(met);
        }
        System.out.println(runs + " random runs are answered as the plain model answers them");
        if (!all) {
            System.exit(1);
        }
    }

    /** Answers that the runs have to meet; "+" is any of 1 and more. */
    private static final String[] DUE = {
        "wheel -1", "wheel 0", "wheel +", "arc -1", "arc -2", "arc +", "take -1", "take +", "sheet -1", "sheet -2",
        "sheet -3", "sheet 0", "sheet +", "mesh -1", "mesh +", "part -1", "part 0", "part +", "of throws", "of 0",
        "of +", "turn -1", "turn -2", "turn -3", "turn -5", "turn 0", "turning -3", "turning -5", "turning +",
        "jams -5", "jams 0", "jams +", "gives -1", "gives -2", "gives -3", "gives -5", "gives 0", "gives +",
        "show -1", "show -2", "show -3", "show -5", "show 0", "together -1", "together -2", "together -3",
        "together -5", "together -6", "together +", "way -1", "way -2", "way +", "fittings -1", "fittings -2",
        "fittings -4", "fittings 0", "fittings +", "fit 0", "fit +", "sure -1", "sure -2", "sure -4", "sure 0",
        "may -1", "may -2", "may -4", "may 0", "may +", "next -1", "next -2", "next -4", "next 0", "next +",
        "sign -1", "sign +", "end 0", "end +", "book -61", "book -1", "book 0", "book +", "shop 0", "shop +",
        "trains -1", "trains -4", "trains 0", "trains +", "nearest -1", "nearest 0", "nearest +", "common -1",
        "common -2", "common -4", "common +", "axle 0", "axle +", "room -1", "room 0", "room +", "pierced 0",
        "pierced +", "depths -2", "depths 0", "depths +", "slot -1", "slot 0", "slot +", "uneven -1", "uneven 0",
        "uneven +", "near -1", "near -2", "near -3", "near -5", "near 0", "near +", "off -1", "off -2", "off -3",
        "off -5", "off -6", "off +", "meets -1", "meets -2", "meets +", "word -1", "word -100", "word -101",
        "word -104", "word 0", "word +", "names -100", "names -101", "names -108", "names 0", "names +", "dial -1",
        "dial 0", "dial +", "seen -1", "seen +", "games -1", "games +", "when 0", "when +", "wrong 0", "wrong +",
        "year -1", "year -2", "year 0", "year +", "left -1", "left 0", "left +", "breaks 0", "breaks +", "keep 0",
        "keep +", "again 0", "again +", "unlike -1", "unlike 0", "unlike +", "count -1", "count 0", "count +",
        "row throws"};

    private void go() {
        try {
            start();
            while (calls < CALLS) {
                step();
            }
            look();
        } catch (RuntimeException | AssertionError e) {
            System.out.println("a run of flavour " + flavour + ":");
            for (String line : log) {
                System.out.println("  " + line);
            }
            System.out.println(e);
            System.exit(1);
        }
    }

    // ---- what is called

    private void start() {
        if (flavour == 1) {
            chain();
            return;
        }
        if (flavour == 3) {
            trainOfSpans();
            return;
        }
        int n = flavour == 6 || flavour == 7 ? 0 : 3 + random.nextInt(10);
        for (int i = 0; i < n; i++) {
            newWheel();
        }
        for (int i = 0; i < n * 2; i++) {
            call("mesh", wheelNumber(), wheelNumber());
        }
        newBook();
    }

    /** A long way of prime teeth, whose turns become too long to tell. */
    private void chain() {
        int n = 2 + random.nextInt(6);
        for (int i = 0; i < n; i++) {
            int a = PRIME[i * 2];
            int b = PRIME[i * 2 + 1];
            call("wheel", a, a, i, i);
            call("wheel", b, b, i + 1, i);
            call("mesh", 2 * i, 2 * i + 1);
        }
        newBook();
        if (chance(30)) {
            call("mesh", wheelNumber(), wheelNumber());
        }
    }

    /** A short way of wheels with spans, some of which both are driven and drive. */
    private void trainOfSpans() {
        int axles = 1 + random.nextInt(4);
        int last = -1;
        for (int axle = 0; axle < axles; axle++) {
            if (last < 0 || chance(60)) {
                spanned(axle);
                last = gears.count(0) - 1;
            }
            spanned(axle + 1);
            int driven = gears.count(0) - 1;
            call("mesh", chance(50) ? last : driven, chance(50) ? driven : last);
            if (gears.count(1) <= axle) {
                call("mesh", last, driven);
            }
            last = driven;
        }
        for (int i = 0; i < 3 && chance(50); i++) {
            spanned(random.nextInt(5));
            call("mesh", wheelNumber(), wheelNumber());
        }
        for (int w = 0; w < gears.count(0); w++) {
            call("take", w, gears.of(w, 0) + random.nextInt(gears.of(w, 1) - gears.of(w, 0) + 1));
        }
        newBook();
    }

    private void spanned(int axle) {
        int least = chance(80) ? ROUND[random.nextInt(ROUND.length)] : 10 + random.nextInt(300);
        int wide = chance(20) ? 0 : random.nextInt(chance(10) ? 300 : 7);
        call("wheel", least, Math.min(400, least + wide), axle, random.nextInt(3));
    }

    private void step() {
        int kind = random.nextInt(flavour == 5 ? 3 : 9);
        switch (flavour == 0 && chance(40) ? 1 : flavour == 3 && chance(40) ? 2 : kind) {
            case 0 -> build();
            case 1 -> askTurns();
            case 2 -> askFittings();
            case 3 -> askShop();
            case 4 -> askPlates();
            case 5 -> askWords();
            case 6 -> askSky();
            case 7 -> askLeft();
            default -> askSmall();
        }
    }

    private void build() {
        switch (random.nextInt(12)) {
            case 0, 1 -> newWheel();
            case 2, 3, 4 -> call("mesh", wheelNumber(), wheelNumber());
            case 5 -> call("part");
            case 6 -> call("take", wheelNumber(), teeth());
            case 7 -> call("sheet", random.nextInt(6) - 1, random.nextInt(18) - 2, chance(50) ? teeth() : random.nextInt(),
                chance(70) ? random.nextInt(9) - 4 : random.nextInt());
            case 8 -> call("arc", wheelNumber(), odd(1 + random.nextInt(30), 0, 200, 201),
                odd(20 + random.nextInt(600), 0, 1, 3600, 3601), odd(random.nextInt(20), -1, 0, 100, 101));
            case 9 -> call("of", wheelNumber(), random.nextInt(8) - 1);
            case 10 -> call(chance(70) ? "keep" : "again", random.nextInt(6) - 1);
            default -> call("unlike", random.nextInt(4), random.nextInt(4));
        }
    }

    private void askTurns() {
        int axle = axleNumber();
        switch (random.nextInt(9)) {
            case 0 -> call("turn", axle);
            case 1 -> call("turning");
            case 2 -> call("jams");
            case 3 -> call("gives", axle);
            case 4 -> call("show", axle, years());
            case 5 -> call("together", axle, axleNumber());
            case 6 -> call("way", axle);
            case 7 -> call("near", axle, period(), years());
            default -> call("off", axle, period(), odd(random.nextInt(361), -1, 0, 360, 361));
        }
    }

    private void askFittings() {
        int axle = flavour == 3 && chance(90) ? 1 + random.nextInt(3) : axleNumber();
        switch (random.nextInt(5)) {
            case 0 -> call("fittings", axle, period());
            case 1 -> call("fit", axle, period(), random.nextInt(6) - 1);
            case 2 -> call("sure", axle, period(), flavour == 3 && chance(80) ? random.nextInt(4) : wheelNumber());
            case 3 -> call("may", axle);
            default -> call("next", axle, period());
        }
    }

    private void askShop() {
        switch (random.nextInt(7)) {
            case 0 -> newBook();
            case 1 -> {
                int low = odd(10 + random.nextInt(60), 9, 10, 200, 400);
                call("shop", low, odd(low + random.nextInt(25), low - 1, low, low + 60, low + 61, low + 200, low + 201));
            }
            case 2 -> call("trains", period(), odd(1 + random.nextInt(2), 0, 3));
            case 3 -> call("nearest", period());
            case 4 -> call("common", periods());
            default -> call("meets", periods());
        }
    }

    private void askPlates() {
        switch (random.nextInt(6)) {
            case 0, 1 -> {
                int wide = chance(50) ? 60 : 501;
                call("axle", axleNumber(), odd(random.nextInt(2 * wide) - wide, -501, -500, 500, 501),
                    odd(random.nextInt(2 * wide) - wide, -501, -500, 500, 501));
            }
            case 2 -> call("room", odd(random.nextInt(51), -1, 0, 50, 51));
            case 3 -> call("pierced");
            default -> call("depths");
        }
    }

    private void askWords() {
        switch (random.nextInt(5)) {
            case 0 -> {
                text(someOf("0123456789???", 1 + random.nextInt(4), chance(15)));
                call("word", odd(random.nextInt(2), -1, 2));
            }
            case 1, 2 -> {
                text(someOf("abc????", 1 + random.nextInt(plainPeriods() + 1), chance(15)));
                call("names");
            }
            case 3 -> {
                call("sign", random.nextInt());
                call("end", random.nextInt(9) - 1);
            }
            default -> {
                for (int i = 0; i < 22; i++) {
                    call("sign", 0x31313131);
                }
                call(chance(50) ? "book" : chance(50) ? "names" : "word", chance(50) ? 0 : 1);
                call("end", 0);
            }
        }
    }

    private void askSky() {
        switch (random.nextInt(8)) {
            case 0, 1 -> call("dial", odd(random.nextInt(223), -1, 0, 222, 223), chance(70));
            case 2 -> call("seen", odd(random.nextInt(400), -1, 0, 9999, 10000), chance(50));
            case 3 -> call("games", odd(random.nextInt(100) * 4 + flavour % 4 + (chance(5) ? 1 : 0), -1, 0, 999, 1000));
            case 4 -> call("when");
            case 5 -> call("wrong");
            case 6 -> call("year");
            default -> call("meets", periods());
        }
    }

    private void askLeft() {
        switch (random.nextInt(3)) {
            case 0 -> {
                int w = wheelNumber();
                boolean is = chance(85) && w >= 0 && w < gears.count(0);
                int n = is ? gears.of(w, 2) : teeth();
                int low = odd(Math.max(10, n - random.nextInt(20)), 9, 10, 400);
                call("left", is ? gears.of(w, 3) : axleNumber(), is ? gears.of(w, 4) : odd(random.nextInt(3), -1, 9, 10), low,
                    odd(n + random.nextInt(20), low - 1, 400, 401));
            }
            case 1 -> call("breaks");
            default -> call("unlike", odd(random.nextInt(2), -1, 4), odd(random.nextInt(3), -1, 4));
        }
    }

    private void askSmall() {
        switch (random.nextInt(4)) {
            case 0 -> call("slot", odd(random.nextInt(100), -1, 100), odd(1 + random.nextInt(100), 100, 101),
                random.nextInt(24) - 12, odd(1 + random.nextInt(20), 0, 21));
            case 1 -> call("uneven", odd(1 + random.nextInt(1000), 0, 1000, 1001), odd(1 + random.nextInt(300), 0, 1000, 1001));
            case 2 -> call("count", random.nextInt(13) - 1);
            default -> call("row", random.nextInt(18) - 1);
        }
    }

    // ---- what they are called with

    private boolean chance(int ofHundred) {
        return random.nextInt(100) < ofHundred;
    }

    private int odd(int plainly, int... edges) {
        return chance(15) ? edges[random.nextInt(edges.length)] : plainly;
    }

    private int years() {
        return odd(random.nextInt(100), -1, 0, 2000, 2001);
    }

    private int axleNumber() {
        return odd(random.nextInt(flavour == 1 || flavour == 5 ? 10 : 5), -1, 0, 9, 10);
    }

    private int wheelNumber() {
        int n = gears.count(0);
        return odd(random.nextInt(n + 1), -1, n, 14, Integer.MIN_VALUE, Integer.MAX_VALUE);
    }

    private int plainPeriods() {
        return gears.count(2);
    }

    private int period() {
        if (flavour == 3 && plainPeriods() > 0 && chance(90)) {
            return random.nextInt(plainPeriods());
        }
        return odd(random.nextInt(plainPeriods() + 1), -1, 8);
    }

    private int periods() {
        return odd(random.nextInt(1 << plainPeriods()), -1, 0, 1 << plainPeriods(), (1 << plainPeriods()) - 1);
    }

    private int teeth() {
        if (flavour == 1) {
            return PRIME[random.nextInt(PRIME.length)];
        }
        return chance(80) ? ROUND[random.nextInt(ROUND.length)] : 10 + random.nextInt(391);
    }

    private void newWheel() {
        int least = odd(teeth(), 9, 10, 400, 401);
        int wide = flavour == 3 ? random.nextInt(8) : chance(60) ? 0 : random.nextInt(chance(10) ? 391 : 4);
        call("wheel", least, odd(Math.min(400, least + wide), least - 1, least, 400, 401), axleNumber(), odd(random.nextInt(3), -1, 9, 10));
    }

    private void newBook() {
        StringBuilder all = new StringBuilder();
        int n = random.nextInt(9);
        boolean wide = chance(10);
        for (int i = 0; i < n; i++) {
            all.append(i == 0 ? "" : ";").append(wide ? 1000 + random.nextInt(1002) + ":1999" : line());
        }
        if (chance(20) && all.length() > 0) {
            int p = random.nextInt(all.length());
            String sign = someOf("0123456789:;abz?{/`\u0000\u00ff", 1, true);
            switch (random.nextInt(3)) {
                case 0 -> all.setCharAt(p, sign.charAt(0));
                case 1 -> all.insert(p, sign);
                default -> all.setLength(p);
            }
        }
        text(all.substring(0, Math.min(80, all.length())));
        call("book");
    }

    private String line() {
        int axle = flavour == 3 ? 1 + random.nextInt(3) : axleNumber();
        if (chance(60) && plain.turn(axle) == 0) {
            long up = Math.abs(plain.row(0));
            long down = plain.row(1);
            call("turn", axle);
            if (up <= 2000 && down <= 2000) {
                return up + ":" + down + (chance(30) ? "a" : "");
            }
        }
        if (chance(60)) {
            return LINES[random.nextInt(LINES.length)];
        }
        if (flavour == 3 && chance(50)) {
            return ROUND[random.nextInt(5)] * ROUND[random.nextInt(5)] + ":" + ROUND[random.nextInt(5)] * ROUND[random.nextInt(5)];
        }
        return random.nextInt(chance(90) ? 40 : 2002) + ":" + random.nextInt(chance(90) ? 40 : 2002) + (chance(50) ? someOf("abc", 1, false) : "");
    }

    private String someOf(String signs, int n, boolean wild) {
        StringBuilder some = new StringBuilder();
        for (int i = 0; i < n; i++) {
            some.append(signs.charAt(random.nextInt(signs.length())));
        }
        if (wild && n > 0) {
            some.setCharAt(random.nextInt(n), (char) random.nextInt(256));
            some.append(chance(40) ? "?" : chance(40) ? "?????????" : "");
        }
        return some.toString();
    }

    private void text(String signs) {
        call("end", 0);
        for (int p = 0; p < signs.length(); p += 4) {
            int v = 0;
            for (int i = 0; i < 4; i++) {
                v = v << 8 | (p + i < signs.length() ? signs.charAt(p + i) : 0);
            }
            call("sign", v);
        }
        call("end", signs.length());
    }

    // ---- how the two are held against each other

    private static Map<String, Method> methodsOf(Class<?> kind) {
        Map<String, Method> all = new HashMap<>();
        for (Method method : kind.getDeclaredMethods()) {
            boolean known = kind == PlainGears.class || (method.getModifiers() & 1) == 1;
            boolean simple = method.getReturnType() == int.class || method.getReturnType() == boolean.class
                || method.getReturnType() == long.class;
            for (Class<?> type : method.getParameterTypes()) {
                simple &= type == int.class || type == boolean.class;
            }
            if (known && simple) {
                method.setAccessible(true);
                all.put(method.getName(), method);
            }
        }
        return all;
    }

    private static Object answer(Object of, Method method, Object[] args) {
        try {
            Object answer = method.invoke(of, args);
            return answer instanceof Boolean b ? (b ? "1" : "0") : answer.toString();
        } catch (InvocationTargetException e) {
            if (e.getCause().getClass() == NoSuchElementException.class) {
                return "throws";
            }
            throw new AssertionError(method.getName() + " throws " + e.getCause(), e.getCause());
        } catch (IllegalAccessException e) {
            throw new AssertionError(e);
        }
    }

    private void call(String name, Object... args) {
        Method due = OF_PLAIN.get(name);
        Object[] fitting = java.util.Arrays.copyOf(args, due.getParameterCount());
        for (int i = args.length; i < fitting.length; i++) {
            fitting[i] = 0;
        }
        calls++;
        Object there = answer(plain, due, fitting);
        log.add(name + java.util.Arrays.toString(fitting) + " due " + there);
        Object here = answer(gears, OF_GEARS.get(name), fitting);
        if (!here.equals(there)) {
            throw new AssertionError("answered " + here + ", due is " + there);
        }
        String kind = there.equals("throws") || there.toString().charAt(0) == '-' || there.equals("0") ? " " + there : " +";
        met.merge(name + kind, 1, Integer::sum);
        lookAtRow();
    }

    private void lookAtRow() {
        if (gears.count(7) != plain.count(7)) {
            throw new AssertionError("the row has " + gears.count(7) + ", due is " + plain.count(7));
        }
        for (int i = 0; i < plain.count(7); i++) {
            if (gears.row(i) != plain.row(i)) {
                throw new AssertionError("row " + i + " is " + gears.row(i) + ", due is " + plain.row(i));
            }
        }
    }

    /** All that can be asked of the state. */
    private void look() {
        for (int what = -1; what < 12; what++) {
            call("count", what);
        }
        for (int w = 0; w < gears.count(0); w++) {
            for (int what = 0; what < 6; what++) {
                call("of", w, what);
            }
        }
        for (int axle = 0; axle < 10; axle++) {
            call("turn", axle);
            call("way", axle);
        }
        call("room", 0);
        call("breaks");
        call("when");
        call("year");
    }
}
