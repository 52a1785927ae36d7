/** Promises 34 to 37: count, finding, findings, digest; and what is refused changes nothing. */
public final class ToldTest {
    private static final int LOW = Integer.MIN_VALUE, HIGH = Integer.MAX_VALUE;

    public static void main(String[] args) {
        count();
        findings();
        digestOfNew();
        digest();
        Check.end();
    }

    private static void counts(String when, RankBoard x, int... due) {
        for (int what = 0; what < due.length; what++) {
            Check.due("34: " + when + ", count(" + what + ")", x.count(what), due[what]);
        }
    }

    private static void count() {
        RankBoard x = new RankBoard();
        for (int i = 0; i < 5; i++) {
            x.wrestler(0, i, -9);
        }
        x.leave(2);
        x.line(0, 0, 0);
        counts("before", x, 5, 4, 0, 0, 0, 0, 1, 0);
        x.meet(3);
        counts("meet", x, 5, 4, 0, 3, 0, 0, 1, 0);
        x.draw();
        counts("drawn", x, 5, 4, 1, 3, 2, 2, 1, 0);
        x.result(0, true);
        counts("a result", x, 5, 4, 1, 3, 2, 1, 1, 0);
        x.result(1, true);
        x.draw();
        x.result(2, true);
        x.result(3, true);
        x.draw();
        counts("third day", x, 5, 4, 3, 3, 6, 2, 1, 0);
        x.result(4, true);
        x.result(5, true);
        x.anew();
        counts("over", x, 5, 4, 3, 0, 6, 0, 1, 1);
        x.meet(1);
        counts("a new meet", x, 5, 4, 0, 1, 0, 0, 1, 1);
        Check.due("34: BAD", x.count(8), -1);
        Check.due("34: BAD", x.count(-1), -1);
        Check.due("34: BAD", x.count(LOW), -1);
        Check.due("34: BAD", x.count(HIGH), -1);
    }

    private static void findings() {
        RankBoard x = new RankBoard();
        Check.due("35: before any", x.finding(), 0);
        x.wrestler(0, 0, -9);
        x.sheet(0, 1);
        Check.due("35: before any", x.finding(), 0);
        x.sheet(0, -1);
        x.mean(5);
        x.mark(0, 1);
        x.lay(0, 1, 0);
        x.tear(1);
        for (int f = 1; f <= 5; f++) {
            Check.due("36: each once", x.findings(f), 1);
        }
        Check.due("35: the latest", x.finding(), 1);
        x.mean(5);
        Check.due("35: the latest", x.finding(), 4);
        Check.due("36: twice", x.findings(4), 2);
        x.told(0, 0);
        x.told(9, 0);
        x.draw();
        Check.due("35: stays", x.finding(), 4);
        Check.due("36: BAD", x.findings(0), -1);
        Check.due("36: BAD", x.findings(6), -1);
        Check.due("36: BAD", x.findings(LOW), -1);
        Check.due("36: BAD", x.findings(HIGH), -1);
        Check.due("35: BAD is no finding", x.finding(), 4);
    }

    private static long blend(long... values) {
        long h = 17;
        for (long v : values) {
            h = 31 * h + v;
        }
        return h;
    }

    private static void digestOfNew() {
        Check.due("37: new", new RankBoard().digest(), blend(0, 0, 0, 0, 0, 0, -9, -1, -1, -1, -1));
    }

    private static void digest() {
        RankBoard x = new RankBoard();
        x.wrestler(1, 2, 3);
        x.wrestler(0, 1, -9);
        x.wrestler(2, 7, -9);
        x.leave(1);
        x.line(-1, -1, -2);
        x.meet(1);
        x.draw();
        Check.due("37: in a meet", x.digest(), blend(1, 2, 3, 0, 0, 0, 0, -1, 2, 7, -9, 1, 0, 0, 0,
                0, 2, 0, 0, 2, -9, 1, 1, 1, 1, 1, 0, -9, -1, -1, -1, -1));
        x.result(0, false);
        x.playOff();
        x.anew();
        x.sheet(1, 2);
        x.lay(1, 1, -5);
        x.sheet(3, 0);
        long due = blend(1, 2, 3, 1, 0, 1, 0, -1, 2, 7, -9, 0, 1, 0, 1, 2, 0, 0, 0, 2, 2,
                1, 0, 1, 0, 1, 1, 2, -1, 2, 0, -5, -1, 0);
        Check.due("37: behind it", x.digest(), due);
        Check.due("37: a digest is no finding", x.finding(), 0);
        x.tear(2);
        x.told(1, 0);
        x.wrestler(5, 5, 5);
        Check.due("37: refused changes nothing", x.digest(), due);
        x.beside(0);
        x.prices(1);
        x.absent(0, true);
        Check.due("37: of what is not in it", x.digest(), due);
    }
}
