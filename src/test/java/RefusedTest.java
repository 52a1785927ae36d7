import java.util.ArrayList;
import java.util.Arrays;
import java.util.List;
import java.util.Map;
import java.util.Set;
import java.util.TreeMap;
import java.util.TreeSet;

/**
 * What is refused changes nothing but finding() and findings(). In many situations every call is made
 * with arguments inside and outside its edges; behind each that is refused, and behind each that only
 * reads, the object has to answer a long row of calls just as one does that was never asked. In all of
 * them together each call is refused in the ways that README.md tells, and in no other.
 */
public final class RefusedTest {
    private static final int MIN = Integer.MIN_VALUE, MAX = Integer.MAX_VALUE;
    private static final int[] NUMBERS = {MIN, -9, -1, 0, 1, 2, 3, 4, 5, 6, 7, 8, 15, 16, 17, MAX};
    private static final int[] FEW = {MIN, -9, -1, 0, 1, 3, 7, 8, 16, MAX};
    private static final int[] FLAGS = {0, 1};
    private static final int[] PLACES = {-1, 0, 2, 3, 4, MAX};
    private static final int[] SHEETS = {-1, 0, 1, 2, 4};
    private static final List<String> READS = Arrays.asList("told", "is", "on", "mark", "mean", "price", "barred", "cost",
        "bout", "sat", "why", "passed", "rungBeside", "leaders", "meets", "champion", "count", "finding", "findings", "digest");

    private static final String SIX = "wrestler 0 0 -9; wrestler 1 1 -9; wrestler 2 2 3; wrestler 0 2 -9; wrestler 1 3 3; "
        + "wrestler 2 1 -9; line 1 9 1; line -9 -1 -2; sheet 0 3; lay 0 0 5; lay 0 2 -7; sheet 1 0; prices 0; ";
    private static final String TWO_DAYS = SIX + "leave 3; absent 4 1; meet 2; draw; result 0 0; result 1 1; draw; ";
    private static final String LEADERS = "wrestler 0 0 -9; wrestler 1 0 -9; wrestler 2 0 -9; wrestler 0 0 -9; line 0 0 3; "
        + "meet 1; draw; ";
    private static final String WRITTEN = TWO_DAYS + "result 2 1; result 3 0; playOff; anew; ";

    /** How each call was refused, in whichever situation. */
    private static final Map<String, Set<String>> SEEN = new TreeMap<>();

    private final String title;
    private final String[] setup;
    private final List<Long> findingsBefore = new ArrayList<>();
    private final List<Long> due;
    private int looked;

    private RefusedTest(String title, String rows) {
        this.title = title;
        this.setup = rows.isEmpty() ? new String[0] : rows.trim().split(" *; *");
        Model model = new Model();
        for (String row : setup) {
            long got = model.call(name(row), arguments(row));
            Check.holds(title + ": " + row + " is taken", got < -4 || got > -1);
        }
        RankBoard untouched = made();
        for (int f = 0; f <= 5; f++) {
            findingsBefore.add(finding(untouched, f));
        }
        due = new Probe(untouched).answers();
        Check.holds(title + ": within 512 calls", setup.length + 1 + findingsBefore.size() + due.size() <= 512);
    }

    public static void main(String[] args) throws Exception {
        all("a new object", "");
        all("no MEET yet", SIX);
        all("one LEFT, one is ABSENT", SIX + "leave 0; leave 3; absent 4 1; tear 0");
        all("a MEET without a DAY", SIX + "leave 3; absent 4 1; meet 2");
        all("a DAY without results", SIX + "leave 3; absent 4 1; meet 2; draw");
        all("a result lacks", TWO_DAYS + "result 2 1");
        all("all DAYS drawn", TWO_DAYS + "result 2 1; result 3 0");
        all("a PLAY-OFF goes on", LEADERS + "playOff; wins 0");
        all("a PLAY-OFF is over", LEADERS + "playOff; wins 0; wins 1; wins 1");
        all("WRITTEN ANEW", WRITTEN);
        all("worked beside", WRITTEN + "beside 0");
        all("one LEFT since", WRITTEN + "beside 0; leave 1");
        all("one came since", WRITTEN + "beside 1; wrestler 0 5 -9");
        all("the next MEET", WRITTEN + "beside 1; meet 1");
        all("the next MEET's first DAY", WRITTEN + "beside 1; meet 1; draw");
        all("nobody is left", SIX + "leave 0; leave 1; leave 2; leave 3; leave 4; leave 5; meet 1; draw");
        all("FULL of WRESTLERS and LINES", "wrestler 0 0 -9; wrestler 2 1 -9; ".repeat(8) + "line 9 9 1; ".repeat(11)
            + "line -1 1 1");
        asReadmeTells();
        Check.end();
    }

    private static void asReadmeTells() throws Exception {
        Map<String, Set<String>> told = new Readme().refusals();
        for (String name : SEEN.keySet()) {
            Check.holds(name + " was refused by " + SEEN.get(name) + ", README.md tells " + told.get(name),
                SEEN.get(name).equals(told.get(name)));
        }
    }

    private static void all(String title, String rows) {
        RefusedTest test = new RefusedTest(title, rows);
        for (String name : READS) {
            test.each(name, argumentsOf(name));
        }
        for (String name : new String[] {"wrestler", "leave", "sheet", "lay", "tear", "copy", "prices", "meet", "absent",
            "draw", "result", "line", "anew", "beside", "playOff", "wins"}) {
            test.each(name, argumentsOf(name));
        }
        Check.holds(title + ": calls were looked at", test.looked > 500);
    }

    private static int[][] argumentsOf(String name) {
        switch (name) {
            case "wrestler": return new int[][] {{-1, 0, 2, 3, MIN}, {-1, 0, 7, 8, MAX}, {-10, -9, -8, -1, 0, 7, 8}};
            case "line": return new int[][] {{MIN, -1, 0, MAX}, {MIN, -2, 0, MAX}, {MIN, -16, -15, 0, 15, 16, MAX}};
            case "lay": return new int[][] {SHEETS, PLACES, {0, 200}};
            case "copy": return new int[][] {SHEETS, PLACES, SHEETS, {-1, 0, 1}, {MIN, -1, 0, 2, MAX}};
            case "absent": case "result": return new int[][] {NUMBERS, FLAGS};
            case "meets": case "wins": return new int[][] {FLAGS};
            case "told": case "is": case "mark": case "barred": case "passed": case "bout": case "sheet":
                return new int[][] {FEW, FEW};
            case "cost": case "sat": case "leaders": case "champion": case "finding": case "digest": case "draw": case "anew":
            case "playOff":
                return new int[0][];
            default: return new int[][] {NUMBERS};
        }
    }

    /** Every choice of arguments, counted like the figures of a number. */
    private void each(String name, int[][] choices) {
        int[] at = new int[choices.length];
        boolean more = true;
        while (more) {
            int[] a = new int[choices.length];
            for (int i = 0; i < a.length; i++) {
                a[i] = choices[i][at[i]];
            }
            look(name, a);
            int i = 0;
            while (i < at.length && ++at[i] == choices[i].length) {
                at[i] = 0;
                i++;
            }
            more = i < at.length;
        }
    }

    private void look(String name, int[] a) {
        RankBoard x = made();
        long got = Calls.ask(x, name, a);
        boolean refused = got >= -4 && got <= -1 && !name.equals("digest");
        Set<String> ways = SEEN.computeIfAbsent(name, key -> new TreeSet<>());
        if (refused) {
            ways.add(wayOf(got, x.finding()));
        }
        if (!refused && !READS.contains(name)) {
            return;
        }
        looked++;
        String what = title + ", " + name + Arrays.toString(a) + " (answered " + got + ")";
        Model fresh = new Model();
        for (String row : setup) {
            fresh.call(name(row), arguments(row));
        }
        Check.due(what, got, fresh.call(name, a));
        long found = got == RankBoard.FINDING ? fresh.call("finding") : 0;
        Check.due(what + ": finding()", finding(x, 0), found != 0 ? found : findingsBefore.get(0));
        for (int f = 1; f <= 5; f++) {
            Check.due(what + ": findings(" + f + ")", finding(x, f), findingsBefore.get(f) + (f == found ? 1 : 0));
        }
        Check.holds(what + " left the rest as it was", new Probe(x).answers().equals(due));
    }

    private static String wayOf(long refusal, int finding) {
        return refusal == RankBoard.BAD ? "BAD" : refusal == RankBoard.FULL ? "FULL"
            : refusal == RankBoard.STATE ? "STATE" : Findings.name(finding);
    }

    private RankBoard made() {
        RankBoard x = new RankBoard();
        for (String row : setup) {
            Calls.ask(x, name(row), arguments(row));
        }
        return x;
    }

    private static long finding(RankBoard x, int f) {
        return f == 0 ? x.finding() : x.findings(f);
    }

    private static String name(String row) {
        return row.split(" ")[0];
    }

    private static int[] arguments(String row) {
        return Arrays.stream(row.split(" ")).skip(1).mapToInt(Integer::parseInt).toArray();
    }

    /** Asks for all that is told, and then goes on till all that is held inside has shown. */
    private static final class Probe {
        private final RankBoard x;
        private final List<Long> told = new ArrayList<>();
        private final int wrestlers;
        private final int bouts;

        Probe(RankBoard x) {
            this.x = x;
            this.wrestlers = (int) ask("count", 0);
            this.bouts = (int) ask("count", 4);
        }

        List<Long> answers() {
            ask("digest");
            readWrestlers();
            readRest();
            workBeside();
            turnAbsence();
            turnPrices();
            goOn();
            return told;
        }

        private long ask(String name, int... a) {
            long got = Calls.ask(x, name, a);
            told.add(got);
            return got;
        }

        private void readWrestlers() {
            for (int w = 0; w < wrestlers; w++) {
                for (int what = 0; what <= 6; what++) {
                    ask("told", w, what);
                }
                ask("is", w, 1);
                ask("mark", w, 1);
                ask("mark", w, 2);
                ask("why", w);
                ask("rungBeside", w);
                for (int step = 1; step <= 3; step++) {
                    ask("barred", w, (w + step) % wrestlers);
                    ask("passed", w, (w + step) % wrestlers);
                }
            }
        }

        private void readRest() {
            for (int n = 0; n < 8; n++) {
                ask("count", n);
                ask("mean", n);
                ask("price", n);
            }
            for (int b = 0; b < bouts; b++) {
                ask("bout", b, 3);
            }
            for (String name : new String[] {"cost", "sat", "leaders", "champion"}) {
                ask(name);
            }
            ask("meets", 0);
            ask("meets", 1);
        }

        private void workBeside() {
            for (int b = 0; b < Math.min(3, bouts); b++) {
                ask("beside", b);
                for (int w = 0; w < Math.min(6, wrestlers); w++) {
                    ask("rungBeside", w);
                }
            }
        }

        private void turnAbsence() {
            for (int w = 0; w < wrestlers; w++) {
                long was = ask("absent", w, 0);
                if (was == 1) {
                    ask("absent", w, 1);
                }
            }
        }

        private void turnPrices() {
            long teller = ask("prices", -9);
            if (teller >= 0) {
                ask("prices", (int) teller);
            }
        }

        private void goOn() {
            ask("meet", 1);
            while (ask("count", 5) > 0 || ask("count", 2) < ask("count", 3)) {
                int number = (int) ask("count", 4);
                for (int b = 0; b < number; b++) {
                    ask("result", b, b % 2);
                }
                ask("draw");
                ask("cost");
                ask("sat");
            }
            ask("playOff");
            while (ask("wins", 1) > 0) {
                ask("meets", 0);
            }
            ask("anew");
            for (int w = 0; w < wrestlers; w++) {
                ask("why", w);
                ask("passed", w, 0);
            }
            ask("beside", 0);
            ask("leave", 0);
            ask("wrestler", 0, 0, -9);
            ask("line", 0, 0, 1);
            ask("digest");
        }
    }
}
