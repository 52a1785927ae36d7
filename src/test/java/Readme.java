import java.io.IOException;
import java.nio.file.Files;
import java.nio.file.Path;
import java.util.ArrayList;
import java.util.List;
import java.util.Map;
import java.util.Set;
import java.util.TreeMap;
import java.util.TreeSet;
import java.util.regex.Matcher;
import java.util.regex.Pattern;

/** What README.md says, cut into what a test can look at. */
final class Readme {
    private static final Pattern CALL_ROW = Pattern.compile("\\| `(\\w+ (\\w+)\\([^)]*\\))` \\|.*\\|([^|]*)\\|");

    private final List<String> lines;

    Readme() throws IOException {
        lines = Files.readAllLines(Path.of("README.md"));
    }

    /** The rows of all its Java examples, one behind the other. */
    List<String> examples() {
        List<String> rows = new ArrayList<>();
        boolean inside = false;
        for (String line : lines) {
            if (line.startsWith("```")) {
                inside = line.equals("```java");
            } else if (inside) {
                rows.add(line);
            }
        }
        return rows;
    }

    /** The calls of its tables, as they are declared. */
    List<String> declarations() {
        List<String> found = new ArrayList<>();
        for (String line : lines) {
            Matcher m = CALL_ROW.matcher(line);
            if (m.matches()) {
                found.add(m.group(1));
            }
        }
        return found;
    }

    /** The refusals and findings that its tables tell of each call. */
    Map<String, Set<String>> refusals() {
        Map<String, Set<String>> found = new TreeMap<>();
        for (String line : lines) {
            Matcher m = CALL_ROW.matcher(line);
            if (m.matches()) {
                found.put(m.group(2), words(m.group(3), "`([A-Z]+)`"));
            }
        }
        return found;
    }

    /** The numbers that it tells of the refusals' constants. */
    Map<String, Integer> constants() {
        Map<String, Integer> found = new TreeMap<>();
        Matcher m = Pattern.compile("\\| `([A-Z]+)` \\| (-\\d+) \\||`([A-Z]+)` \\((-\\d+)\\)").matcher(String.join("\n", lines));
        while (m.find()) {
            boolean inTable = m.group(1) != null;
            found.put(inTable ? m.group(1) : m.group(3), Integer.valueOf(inTable ? m.group(2) : m.group(4)));
        }
        return found;
    }

    Set<String> testNames() {
        return words(String.join("\n", lines), "`(\\w+Test)`");
    }

    private static Set<String> words(String text, String form) {
        Set<String> found = new TreeSet<>();
        Matcher m = Pattern.compile(form).matcher(text);
        while (m.find()) {
            found.add(m.group(1));
        }
        return found;
    }
}
