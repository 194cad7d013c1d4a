import java.lang.reflect.Constructor;
import java.lang.reflect.Field;
import java.lang.reflect.Method;
import java.lang.reflect.Modifier;
import java.nio.file.Files;
import java.nio.file.Path;
import java.util.ArrayList;
import java.util.Arrays;
import java.util.HashSet;
import java.util.List;
import java.util.Set;
import java.util.TreeSet;
import java.util.regex.Matcher;
import java.util.regex.Pattern;

/** The face of the document, and those rules of LANGUAGE.md that can be seen from outside or from the text. */
public final class LanguageTest {
    private static final Path MAIN = Path.of("src/main/java/GreenGears.java");
    private static final Path DOC = Path.of("../shared/DOC.md");
    private static int wrong;

    public static void main(String[] args) throws Exception {
        face();
        members();
        sizes();
        text();
        indexesAndDivisors();
        System.out.println(wrong == 0 ? "the language is kept to" : wrong + " rules are not kept to");
        if (wrong != 0) {
            System.exit(1);
        }
    }

    private static void due(boolean holds, String rule) {
        if (!holds) {
            wrong++;
            System.out.println(rule);
        }
    }

    private static void face() throws Exception {
        Set<String> due = new TreeSet<>();
        Matcher lines = Pattern.compile("(?m)^    public (?!static)(\\w+) (\\w+)\\((.*)\\)( throws NoSuchElementException)?;").matcher(Files.readString(DOC));
        while (lines.find()) {
            List<String> types = new ArrayList<>();
            for (String parameter : lines.group(3).isEmpty() ? new String[0] : lines.group(3).split(", ")) {
                types.add(parameter.split(" ")[0]);
            }
            due.add(lines.group(1) + " " + lines.group(2) + types + (lines.group(4) == null ? "" : lines.group(4)));
        }
        Set<String> here = new TreeSet<>();
        for (Method method : GreenGears.class.getDeclaredMethods()) {
            if (Modifier.isPublic(method.getModifiers())) {
                List<String> types = new ArrayList<>();
                for (Class<?> type : method.getParameterTypes()) {
                    types.add(type.getName());
                }
                due(!Modifier.isStatic(method.getModifiers()), method + " is static");
                here.add(method.getReturnType() + " " + method.getName() + types + (method.getExceptionTypes().length == 0 ? "" : " throws NoSuchElementException"));
            }
        }
        due(due.size() == 50, "the document is read: " + due.size() + " calls");
        due(due.equals(here), "the face is the document's: " + here + ", due " + due);
        Constructor<?>[] made = GreenGears.class.getDeclaredConstructors();
        due(made.length == 1 && made[0].getParameterCount() == 0 && Modifier.isPublic(made[0].getModifiers()), "one constructor");
        due(Modifier.isFinal(GreenGears.class.getModifiers()) && Modifier.isPublic(GreenGears.class.getModifiers()), "public and final");
    }

    private static void members() {
        Set<String> faceNames = new HashSet<>();
        for (Method method : GreenGears.class.getDeclaredMethods()) {
            if (Modifier.isPublic(method.getModifiers())) {
                faceNames.add(method.getName());
            } else {
                due(Modifier.isPrivate(method.getModifiers()), method + " is not private");
            }
        }
        for (Field field : GreenGears.class.getDeclaredFields()) {
            boolean none = field.getName().equals("NONE");
            due(Modifier.isPublic(field.getModifiers()) == none && (none || Modifier.isPrivate(field.getModifiers())), field + " is to be seen");
        }
        for (Class<?> kind : kinds()) {
            for (Method method : kind.getDeclaredMethods()) {
                boolean face = kind == GreenGears.class && Modifier.isPublic(method.getModifiers());
                due(face || !faceNames.contains(method.getName()), method + " bears the name of a public one");
                due(method.getParameterCount() <= 7, method + " takes more than seven");
                due(!Set.of("equals", "hashCode", "toString").contains(method.getName()), method + " is not allowed");
            }
            for (Field field : kind.getDeclaredFields()) {
                due(!Modifier.isStatic(field.getModifiers()) || Modifier.isFinal(field.getModifiers()), field + " is static, not final");
            }
            due(kind == GreenGears.class || Modifier.isStatic(kind.getModifiers()), kind + " is not static");
        }
    }

    private static List<Class<?>> kinds() {
        List<Class<?>> all = new ArrayList<>(List.of(GreenGears.class));
        all.addAll(Arrays.asList(GreenGears.class.getDeclaredClasses()));
        return all;
    }

    private static void sizes() throws Exception {
        due(kinds().size() <= 12, kinds().size() + " classes");
        for (Class<?> kind : kinds()) {
            long fields = Arrays.stream(kind.getDeclaredFields()).filter(f -> !Modifier.isStatic(f.getModifiers())).count();
            due(fields <= 20, kind + " has " + fields + " fields");
        }
        int begin = 0;
        List<String> lines = Files.readAllLines(MAIN);
        for (int i = 0; i < lines.size(); i++) {
            if (lines.get(i).matches("( {4}| {8})[a-z].*\\) (throws \\w+ )?\\{")) {
                begin = i;
            }
            if (lines.get(i).matches("( {4}| {8})\\}")) {
                due(begin == 0 || i - begin < 60, "a method of more than 60 lines ends at " + (i + 1));
                begin = 0;
            }
        }
    }

    private static void text() throws Exception {
        String text = Files.readString(MAIN);
        String code = text.replaceAll("(?s)/\\*.*?\\*/", "").replaceAll("//.*", "");
        due(code.indexOf("package ") < 0, "a package line");
        Matcher imports = Pattern.compile("import ([\\w.*]+);").matcher(code);
        while (imports.find()) {
            due(imports.group(1).equals("java.util.NoSuchElementException"), "import " + imports.group(1));
        }
        for (String word : List.of("->", "::", "catch", "try ", "finally", "assert", "synchronized", "Exact", "System.", "Object",
            "Random", "Thread", "while (true", "for (;;", "instanceof", "double", "float", "hashCode", "Arrays", "@")) {
            due(!code.contains(word), word + " stands in the text");
        }
        Matcher calls = Pattern.compile("\\b(Math|Integer|Long|String)\\.(\\w+)").matcher(code);
        while (calls.find()) {
            due(Set.of("abs", "max", "min", "bitCount").contains(calls.group(2)), calls.group() + " stands in the text");
        }
        Matcher thrown = Pattern.compile("throw [^;]*").matcher(code);
        while (thrown.find()) {
            due(thrown.group().startsWith("throw new NoSuchElementException(\""), thrown.group());
        }
        due(text.chars().allMatch(c -> c < 128), "a sign above 127 stands in the text");
    }

    /** Indexes and divisors stand only where they are looked at in the same lines. */
    private static void indexesAndDivisors() throws Exception {
        Set<String> indexed = Set.of("at", "put", "longAt", "putLong", "copyAll", "fill", "keep", "buildAt", "mark", "addSeen", "wrongAt");
        Set<String> divided = Set.of("quotient", "remainder", "divides", "gcd");
        String method = "";
        for (String line : Files.readAllLines(MAIN)) {
            Matcher head = Pattern.compile("^( {4}| {8})[a-z][\\w\\[\\] ]* (\\w+)\\(.*\\{").matcher(line);
            if (head.find()) {
                method = head.group(2);
            }
            String code = line.replaceAll("^ *(\\*|/\\*|//).*", "");
            boolean makes = code.contains("new ");
            if (!makes && Pattern.compile("\\w\\[\\w").matcher(code).find()) {
                due(indexed.contains(method), "an index in " + method + ": " + line.trim());
            }
            Matcher divisor = Pattern.compile("[/%]=? ([\\w(]+)").matcher(code);
            while (divisor.find()) {
                boolean constant = divisor.group(1).matches("[1-9]\\d*|MONTHS");
                due(constant || divided.contains(method), "a divisor in " + method + ": " + line.trim());
            }
        }
    }
}
