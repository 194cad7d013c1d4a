import java.util.Arrays;

/** What the tests of promises share: an object, ways to tell it things, answers held against those that are due. */
abstract class Bench {
    /** The object that is looked at. */
    static GreenGears x;
    /** What the next checks are about. */
    static String about = "";
    private static int checks;
    private static int wrong;

    interface Call {
        void go();
    }

    // ---- how it is checked

    static void due(Object want, Object answer) {
        checks++;
        if (!want.toString().equals(answer.toString())) {
            wrong++;
            StackTraceElement from = new Throwable().getStackTrace()[1];
            System.out.println(about + ", line " + from.getLineNumber() + ": answered " + answer + ", due is " + want);
        }
    }

    static void dueThrows(Call call) {
        String met = "nothing";
        try {
            call.go();
        } catch (RuntimeException e) {
            met = e.getClass().getSimpleName();
        }
        due("NoSuchElementException", met);
    }

    /** Tells how many checks there were, and ends with 1 if one found something wrong. */
    static void close() {
        System.out.println(checks + " checks, " + wrong + " of them wrong");
        if (wrong != 0) {
            System.exit(1);
        }
    }

    /** The answer and the row behind it. */
    static String told(int answer) {
        return answer + rowNow();
    }

    static String rowNow() {
        long[] row = new long[x.count(7)];
        for (int i = 0; i < row.length; i++) {
            row[i] = x.row(i);
        }
        return Arrays.toString(row);
    }

    /** Of a wheel several things, with gaps between. */
    static String ofWheel(int wheel, int... whats) {
        StringBuilder all = new StringBuilder();
        for (int what : whats) {
            all.append(all.length() == 0 ? "" : " ").append(x.of(wheel, what));
        }
        return all.toString();
    }

    // ---- what it is told

    static void fresh() {
        x = new GreenGears();
    }

    /** The text is just these signs. */
    static void text(String signs) {
        x.end(0);
        for (int p = 0; p < signs.length(); p += 4) {
            int v = 0;
            for (int i = 0; i < 4; i++) {
                v = v << 8 | (p + i < signs.length() ? signs.charAt(p + i) : 0);
            }
            x.sign(v);
        }
        x.end(signs.length());
    }

    static int book(String signs) {
        text(signs);
        return x.book();
    }

    static int word(String signs, int what) {
        text(signs);
        return x.word(what);
    }

    static int names(String signs) {
        text(signs);
        return x.names();
    }

    /** A wheel of so many teeth. */
    static int wheel(int teeth, int axle, int depth) {
        return x.wheel(teeth, teeth, axle, depth);
    }

    /** Wheels of axle 0 and 1, 1 and 2, ..: each drives the next one. */
    static void chain(int... teeth) {
        fresh();
        for (int i = 0; i + 1 < teeth.length; i += 2) {
            int one = wheel(teeth[i], i / 2, i / 2);
            int other = wheel(teeth[i + 1], i / 2 + 1, i / 2);
            x.mesh(one, other);
        }
    }
}
