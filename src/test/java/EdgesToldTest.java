import java.math.BigInteger;

/** Promises 34 to 37: each edge and each refusal that they name, just inside and just outside. */
public final class EdgesToldTest {
    private static final BigInteger WHOLE = BigInteger.ONE.shiftLeft(64);

    public static void main(String[] args) {
        countFirstAndLast();
        countBad();
        countOfTheLatestMeet();
        countGreatest();
        findingBefore();
        findingOfFindingsAlone();
        findingsFirstAndLast();
        findingsBad();
        digestThatDoesNotWrap();
        digestThatWraps();
        digestOfOneThatLeft();
        digestOfSheets();
        Check.end();
    }

    private static void countFirstAndLast() {
        Run.of("34: 0 to 7, all 0").each(8, "count # = 0");
        Run.apart("34: 0 to 7", 5).then("leave 4", "line 0 0 0", "meet 1", "draw", "result 0 true", "result 1 true", "anew",
            "meet 3", "draw", "result 1 true", "count 0 = 5", "count 1 = 4", "count 2 = 1", "count 3 = 3", "count 4 = 2",
            "count 5 = 1", "count 6 = 1", "count 7 = 1");
    }

    private static void countBad() {
        Run.of("34: BAD").all("BAD", "count -1", "count 8", "count NONE", "count MIN", "count MAX").then("count 0 = 0",
            "count 7 = 0");
    }

    private static void countOfTheLatestMeet() {
        Run.apart("34: 2, 4, 5 of the latest MEET, 3 of the one that goes on", 2).then("meet 2", "draw", "result 0 true", "draw",
            "count 3 = 2", "anew", "count 2 = 2", "count 3 = 0", "count 4 = 1", "count 5 = 0", "meet 1", "count 2 = 0",
            "count 3 = 1", "count 4 = 0", "count 5 = 0", "draw", "count 5 = 1", "result 0 true", "count 5 = 0",
            "result 0 true = STATE", "count 5 = 0");
    }

    private static void countGreatest() {
        Run.mates("34: the most of each", 16).each(12, "line 0 0 0").then("meet 15").each(15, "draw").then("count 0 = 16",
            "count 1 = 16", "count 2 = 15", "count 3 = 15", "count 4 = 0", "count 5 = 0", "count 6 = 12", "count 7 = 0");
        Run.mates("34: WRITTEN ANEW time and again", 1).each(40, "count 7 = #", "meet 1", "draw", "anew").then("count 7 = 40");
    }

    private static void findingBefore() {
        Run.mates("35: 0 before any", 1).then("finding = 0").all("BAD", "told 1 0", "sheet 0 17", "meet 0", "findings 0")
            .all("STATE", "draw", "anew").then("on 9 = NONE", "finding = 0", "mean 7 = NOUGHT", "finding = 4");
    }

    private static void findingOfFindingsAlone() {
        Run.mates("35: the latest stays till another one", 1).then("sheet 0 -1 = SIZE", "sheet 0 1 = 1", "tear 3 = NOTHING",
            "tear 0 = 1", "tear 4 = BAD", "draw = STATE", "finding = 1", "findings 1 = 1", "findings 5 = 1", "finding = 1");
    }

    private static void findingsFirstAndLast() {
        Run.mates("36: 1 .. 5", 1).all("0", "findings 1", "findings 2", "findings 3", "findings 4", "findings 5")
            .then("tear 0 = NOTHING", "findings 1 = 1", "findings 2 = 0", "sheet 0 -1 = SIZE", "sheet 0 -1 = SIZE",
                "findings 5 = 2", "findings 4 = 0", "findings 1 = 1");
    }

    private static void findingsBad() {
        Run.of("36: BAD").all("BAD", "findings 0", "findings 6", "findings -1", "findings NONE", "findings MIN", "findings MAX")
            .then("findings 1 = 0", "findings 5 = 0");
    }

    /** The sum without an end, of which a long holds the last 64 bits. */
    private static BigInteger whole(long... values) {
        BigInteger h = BigInteger.valueOf(17);
        for (long v : values) {
            h = h.multiply(BigInteger.valueOf(31)).add(BigInteger.valueOf(v));
        }
        return h;
    }

    private static void wraps(String title, BigInteger whole, boolean wraps) {
        Check.due(title + ", a sum beyond a long", whole.bitLength() > 63 ? 1 : 0, wraps ? 1 : 0);
    }

    private static long cut(BigInteger whole) {
        BigInteger rest = whole.mod(WHOLE);
        return rest.testBit(63) ? rest.subtract(WHOLE).longValueExact() : rest.longValueExact();
    }

    private static void digestThatDoesNotWrap() {
        BigInteger due = whole(0, 0, 0, 0, 0, 0, -9, -1, -1, -1, -1);
        wraps("37: of a new object", due, false);
        Run.of("37: of a new object", "digest = " + due.longValueExact());
        Run.of("37: it tells no finding", "digest = " + due.longValueExact(), "finding = 0", "count 0 = 0");
    }

    private static void digestThatWraps() {
        BigInteger one = whole(0, 0, -9, 0, 0, 0, 0, 0, 0, 0, 0, 0, 0, 0, -9, -1, -1, -1, -1);
        wraps("37: of one WRESTLER", one, true);
        Run.of("37: of one WRESTLER", "wrestler 0 0 NONE", "digest = " + cut(one));
        BigInteger meet = whole(2, 7, 7, 0, 1, 0, 0, 1, 0, 0, 1, 0, 1, 0, 0, 1, 0, 0, 1, 0, 1, 15, 1, 0, 0, 0, -9, -1, -1, -1,
            -1);
        wraps("37: in a MEET", meet, true);
        Run.of("37: in a MEET", "wrestler 2 7 7", "wrestler 1 0 0", "meet 15", "draw", "result 0 true", "digest = " + cut(meet));
    }

    private static void digestOfOneThatLeft() {
        BigInteger due = whole(-1, 0, 0, -9, 0, 0, 0, 0, 1, 0, 0, 0, 0, 0, 0, -9, -1, -1, -1, -1);
        Run.mates("37: -1 once: it LEFT", 2).then("leave 0", "digest = " + cut(due), "finding = 0");
        Run.mates("37: all LEFT", 1).then("leave 0", "digest = " + cut(whole(-1, 0, 0, 0, 0, 0, 0, -9, -1, -1, -1, -1)));
    }

    private static void digestOfSheets() {
        Run.of("37: of no bytes, and missing", "sheet 0 0", "sheet 3 0",
            "digest = " + cut(whole(0, 0, 0, 0, 0, 0, -9, 0, -1, -1, 0)), "tear 0",
            "digest = " + cut(whole(0, 0, 0, 0, 0, 0, -9, -1, -1, -1, 0)));
        Run.of("37: bytes with their signs", "sheet 1 3", "lay 1 0 128", "lay 1 1 127", "lay 1 2 -1",
            "digest = " + cut(whole(0, 0, 0, 0, 0, 0, -9, -1, 3, -128, 127, -1, -1, -1)));
        Run.of("37: sixteen bytes", "sheet 2 16", "lay 2 15 9",
            "digest = " + cut(whole(0, 0, 0, 0, 0, 0, -9, -1, -1, 16, 0, 0, 0, 0, 0, 0, 0, 0, 0, 0, 0, 0, 0, 0, 0, 9, -1)));
    }
}
