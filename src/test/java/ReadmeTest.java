import java.io.IOException;
import java.lang.reflect.Method;
import java.lang.reflect.Modifier;
import java.nio.file.Files;
import java.nio.file.Path;
import java.util.ArrayList;
import java.util.List;
import java.util.TreeSet;
import java.util.regex.Matcher;
import java.util.regex.Pattern;

/** What README.md tells: its examples stand here line by line, and its table has every call. */
public final class ReadmeTest extends Bench {
    private static final Path HERE = Path.of("src/test/java/ReadmeTest.java");

    public static void main(String[] args) throws IOException {
        String readme = Files.readString(Path.of("README.md"));
        about = "README.md";
        examples();
        due("[]", unlike(readme));
        due(calls(), tableOf(readme));
        close();
    }

    private static void examples() {
        GreenGears lump = new GreenGears();
        x = lump;
        int sun = lump.wheel(64, 64, 0, 0);     // 0: 64 teeth, on axle 0, at depth 0
        int moon = lump.wheel(36, 40, 1, 0);    // 1: 36 to 40 teeth, 36 of them taken
        lump.mesh(sun, moon);                   // 1: so many meshes
        due(0, sun);
        due(1, moon);
        due("36 40 36", ofWheel(moon, 0, 1, 2));
        due(1, lump.count(1));
        int state = lump.turn(1);               // 0: the row has the fraction
        long up = lump.row(0);                  // -16: against axle 0
        long down = lump.row(1);                // 9
        due(0, state);
        due(-16, up);
        due(9, down);

        lump.sign('3' << 24 | '2' << 16 | ':' << 8 | '1');
        lump.sign('9' << 24 | 'm' << 16);       // 8: two signs too many
        due(8, lump.count(8));
        lump.end(6);                            // true: the text is 32:19m
        due(6, lump.count(8));
        int known = lump.book();                // 1: so many periods
        due(1, known);
        int ways = lump.fittings(1, 0);         // 1: the row has 64 and 38
        due("1[64, 38]", told(ways));
        lump.fit(1, 0, 0);                      // true: 38 teeth are taken
        due(38, lump.of(moon, 2));
        int given = lump.gives(1);              // 1: the bit of period 0
        due(1, given);
        lump.shop(20, 70);                      // true
        due("20 70", lump.count(9) + " " + lump.count(10));
        int trains = lump.trains(0, 1);         // 1: the row has 64 and 38
        due("1[64, 38]", told(trains));
    }

    /** The lines of the examples that do not stand here. */
    private static List<String> unlike(String readme) throws IOException {
        List<String> here = new ArrayList<>();
        for (String line : Files.readAllLines(HERE)) {
            here.add(line.strip());
        }
        List<String> all = new ArrayList<>();
        Matcher blocks = Pattern.compile("(?s)```java\n(.*?)```").matcher(readme);
        int n = 0;
        while (blocks.find()) {
            for (String line : blocks.group(1).split("\n")) {
                n++;
                if (!here.contains(line)) {
                    all.add(line);
                }
            }
        }
        due(16, n);
        return all;
    }

    private static TreeSet<String> calls() {
        TreeSet<String> all = new TreeSet<>();
        for (Method method : GreenGears.class.getDeclaredMethods()) {
            if (Modifier.isPublic(method.getModifiers())) {
                all.add(method.getName());
            }
        }
        return all;
    }

    private static TreeSet<String> tableOf(String readme) {
        TreeSet<String> all = new TreeSet<>();
        Matcher rows = Pattern.compile("(?m)^\\|.*").matcher(readme);
        while (rows.find()) {
            Matcher names = Pattern.compile("`(\\w+)`").matcher(rows.group());
            while (names.find()) {
                all.add(names.group(1));
            }
        }
        return all;
    }
}
