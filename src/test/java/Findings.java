import java.util.Arrays;
import java.util.List;

/** The document's findings by their names. */
final class Findings {
    private static final List<String> NAMES = Arrays.asList("", "NOTHING", "BEYOND", "UNLIKE", "NOUGHT", "SIZE");

    private Findings() {
    }

    /** Below 1: no finding has this name. */
    static int number(String name) {
        return NAMES.indexOf(name);
    }

    static String name(int finding) {
        return NAMES.get(finding);
    }
}
