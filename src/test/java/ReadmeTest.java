import java.io.File;
import java.lang.reflect.Method;
import java.nio.file.Files;
import java.nio.file.Path;
import java.util.ArrayList;
import java.util.List;
import java.util.Map;
import java.util.Set;
import java.util.TreeSet;
import java.util.regex.Matcher;
import java.util.regex.Pattern;

/** README.md: the calls that it shows, with the answers that it tells of them, and that it has them all. */
public final class ReadmeTest {
    private static final String MAKING = "RankBoard board = new RankBoard();";
    private static final Pattern CALL = Pattern.compile(
        "board\\.(\\w+)\\(([^()]*)\\); +// (-?\\d+|[A-Z]+)(?: \\(([A-Z]+)\\))?: \\S.*");

    private final Set<String> shown = new TreeSet<>();
    private RankBoard board;
    private Model model;
    private int calls;

    public static void main(String[] args) throws Exception {
        Readme readme = new Readme();
        ReadmeTest test = new ReadmeTest();
        for (String row : readme.examples()) {
            test.take(row);
        }
        Check.holds("the examples are within 512 calls", test.calls <= 512);
        everyConstant(readme.constants());
        everyCall(readme.declarations(), test.shown);
        everyTest(readme.testNames());
        Check.end();
    }

    private void take(String row) throws ReflectiveOperationException {
        if (row.equals(MAKING)) {
            board = new RankBoard();
            model = new Model();
            return;
        }
        Matcher m = CALL.matcher(row);
        boolean readable = m.matches() && board != null;
        Check.holds("README.md: \"" + row + "\" is a call with its answer", readable);
        if (readable) {
            make(row, m);
        }
    }

    /** By reflection, so that a row that javac would not take is not taken here. */
    private void make(String row, Matcher m) throws ReflectiveOperationException {
        String name = m.group(1);
        String[] words = m.group(2).isEmpty() ? new String[0] : m.group(2).split(", ");
        Class<?>[] types = new Class<?>[words.length];
        Object[] values = new Object[words.length];
        int[] numbers = new int[words.length];
        for (int i = 0; i < words.length; i++) {
            boolean flag = words[i].equals("true") || words[i].equals("false");
            types[i] = flag ? boolean.class : int.class;
            numbers[i] = flag ? (words[i].equals("true") ? 1 : 0) : number(words[i]);
            values[i] = flag ? (Object) (numbers[i] == 1) : (Object) numbers[i];
        }
        long got = ((Number) RankBoard.class.getMethod(name, types).invoke(board, values)).longValue();
        long due = m.group(3).matches("[A-Z]+") ? constant(m.group(3)) : Long.parseLong(m.group(3));
        calls++;
        shown.add(name);
        Check.due("README.md: " + row, got, due);
        Check.due("the model: " + row, model.call(name, numbers), due);
        Check.holds(row + " names its finding", m.group(3).equals("FINDING") == (m.group(4) != null));
        if (m.group(4) != null) {
            calls++;
            Check.due("finding() behind " + row, board.finding(), Findings.number(m.group(4)));
        }
    }

    private static int number(String word) throws ReflectiveOperationException {
        return word.startsWith("RankBoard.") ? constant(word.substring("RankBoard.".length())) : Integer.parseInt(word);
    }

    private static int constant(String name) throws ReflectiveOperationException {
        return RankBoard.class.getField(name).getInt(null);
    }

    private static void everyConstant(Map<String, Integer> told) throws ReflectiveOperationException {
        Check.due("constants in README.md", told.size(), RankBoard.class.getFields().length);
        for (String name : told.keySet()) {
            Check.due("RankBoard." + name, constant(name), told.get(name));
        }
    }

    private static void everyCall(List<String> declared, Set<String> shown) throws Exception {
        String source = Files.readString(Path.of("src/main/java/RankBoard.java"));
        Set<String> names = new TreeSet<>();
        for (String declaration : declared) {
            Check.holds("README.md: " + declaration + " is a call of the class",
                source.contains("    public " + declaration + " {\n"));
            names.add(declaration.replaceAll("\\w+ (\\w+)\\(.*", "$1"));
        }
        List<String> due = new ArrayList<>();
        for (Method method : RankBoard.class.getMethods()) {
            if (method.getDeclaringClass() == RankBoard.class) {
                due.add(method.getName());
            }
        }
        Check.due("calls in the tables of README.md", declared.size(), due.size());
        Check.holds("README.md has every call in its tables: " + names, names.equals(new TreeSet<>(due)));
        Check.holds("README.md shows every call: " + shown, shown.equals(new TreeSet<>(due)));
    }

    private static void everyTest(Set<String> named) {
        Set<String> there = new TreeSet<>();
        for (File file : new File("src/test/java").listFiles()) {
            if (file.getName().endsWith("Test.java")) {
                there.add(file.getName().replace(".java", ""));
            }
        }
        Check.holds("README.md names the tests " + there + ": " + named, named.equals(there));
    }
}
