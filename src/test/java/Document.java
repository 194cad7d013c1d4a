import java.io.IOException;
import java.nio.file.Files;
import java.nio.file.Path;
import java.util.ArrayList;
import java.util.LinkedHashMap;
import java.util.List;
import java.util.Map;
import java.util.regex.Matcher;
import java.util.regex.Pattern;

/** The promises of ../shared/DOC.md, and which of their passages tests have quoted. */
final class Document {
    private static final Path FILE = Path.of("../shared/DOC.md");
    /** Words by which a passage names a boundary. */
    private static final Pattern MARK = Pattern.compile("\\.\\.|at most|above|below|Refused|NONE|-\\d|[Ff]alse|"
        + "NoSuchElementException|\\b(equal|none|first|least|fewest|empty|nearer|farther|nearest|latest|others)\\b");

    /** A part of the document: its words with one gap between, and of each sign whether it is quoted. */
    private record Section(String words, boolean[] quoted) {
    }

    private final Map<String, Section> sections = new LinkedHashMap<>();

    Document() throws IOException {
        String all = Files.readString(FILE);
        for (String part : all.split("\n## ")) {
            String heading = part.split("\n")[0].replaceAll("Promise \\d+: ", "");
            if (heading.equals("Terms") || part.startsWith("Promise ")) {
                // the head of a call, and the names of calls, are told by the face
                String words = part.substring(part.indexOf('\n') + 1).replaceAll("```\\w*|`[^`]*`", "").replaceAll("\\s+", " ");
                sections.put(heading, new Section(words, new boolean[words.length()]));
            }
        }
    }

    int promises() {
        return sections.size() - 1;
    }

    /** Marks a passage as quoted; false if it does not stand just once in that part. */
    boolean quote(String heading, String passage) {
        Section section = sections.get(heading);
        if (section == null) {
            return false;
        }
        int from = section.words.indexOf(passage);
        if (from < 0 || section.words.indexOf(passage, from + 1) >= 0) {
            return false;
        }
        for (int i = 0; i < passage.length(); i++) {
            section.quoted[from + i] = true;
        }
        return true;
    }

    /** Where a boundary is named that no test quotes. */
    List<String> unquoted() {
        List<String> all = new ArrayList<>();
        sections.forEach((heading, section) -> {
            Matcher marks = MARK.matcher(section.words);
            while (marks.find()) {
                if (!section.quoted[marks.start()]) {
                    int from = Math.max(0, marks.start() - 30);
                    all.add(heading + ": .." + section.words.substring(from, Math.min(section.words.length(), marks.end() + 30)) + "..");
                }
            }
        });
        return all;
    }
}
