import java.nio.file.Files;
import java.nio.file.Path;
import java.util.regex.Matcher;
import java.util.regex.Pattern;

/** The rules of LANGUAGE.md that can be seen in the text of the class. */
public final class SourceTest {
    private static final String[] NEVER = {
        "\\bthrow\\b", "\\bthrows\\b", "\\btry\\b", "\\bcatch\\b", "\\bsynchronized\\b",
        "\\bassert\\b", "->", "::", "\\bstatic\\s*\\{", "\\bpackage\\b", "\\bThread\\b",
        "\\bRandom\\b", "\\bObject\\b", "Exact\\s*\\(", "\\bprotected\\b", "\\bvar\\b"
    };

    public static void main(String[] args) throws Exception {
        String text = Files.readString(Path.of("src/main/java/RankBoard.java"));
        String code = text.replaceAll("(?s)/\\*.*?\\*/", "").replaceAll("//[^\n]*", "");
        for (String never : NEVER) {
            Check.holds("no " + never, !Pattern.compile(never).matcher(code).find());
        }
        imports(code);
        library(code);
        methodLengths(text);
        Check.end();
    }

    private static void imports(String code) {
        Matcher m = Pattern.compile("import\\s+([^;]+);").matcher(code);
        while (m.find()) {
            Check.holds("import " + m.group(1), m.group(1).equals("java.util.Arrays"));
        }
    }

    private static void library(String code) {
        Matcher m = Pattern.compile("\\b(Arrays|System|Math|Integer|Long)\\.(\\w+)").matcher(code);
        while (m.find()) {
            String call = m.group(1) + "." + m.group(2);
            Check.holds(call + " is of the library that is left", call.matches(
                    "Arrays\\.(fill|copyOf|copyOfRange)|System\\.arraycopy|Math\\.(max|min|abs)"));
        }
    }

    /** A method of the outer class is indented by 4, one of a class inside by 8. */
    private static void methodLengths(String text) {
        String[] lines = text.split("\n");
        Pattern start = Pattern.compile("( {4}| {8})(?! ).*\\) \\{");
        for (int i = 0; i < lines.length; i++) {
            Matcher m = start.matcher(lines[i]);
            if (m.matches()) {
                int end = i;
                while (end < lines.length && !lines[end].equals(m.group(1) + "}")) {
                    end++;
                }
                Check.holds("at most sixty lines: " + lines[i].trim(), end - i < 60);
            }
        }
    }
}
