/** Promises 1 to 8: a new object, wrestler, leave, told, is, on, mark, mean. */
public final class WrestlersTest {
    private static final int LOW = Integer.MIN_VALUE, HIGH = Integer.MAX_VALUE;

    public static void main(String[] args) {
        newObject();
        wrestler();
        wrestlerRefused();
        leave();
        told();
        is();
        on();
        mark();
        mean();
        Check.end();
    }

    private static void newObject() {
        RankBoard x = new RankBoard();
        for (int what = 0; what <= 7; what++) {
            Check.due("1: count(" + what + ")", x.count(what), 0);
        }
        for (int n = 0; n <= 15; n++) {
            Check.due("1: price(" + n + ")", x.price(n), 4 * n * n);
        }
        for (int f = 1; f <= 5; f++) {
            Check.due("1: findings(" + f + ")", x.findings(f), 0);
        }
        Check.due("1: finding()", x.finding(), 0);
        Check.due("1: on(0)", x.on(0), -9);
        Check.due("1: champion()", x.champion(), -9);
        Check.due("1: meets(false)", x.meets(false), -9);
        Check.due("1: cost()", x.cost(), 0);
        Check.due("1: sat()", x.sat(), 0);
        Check.due("1: draw()", x.draw(), -4);
        Check.due("1: anew()", x.anew(), -4);
        Check.due("1: leaders()", x.leaders(), -4);
        Check.due("1: playOff()", x.playOff(), -4);
        Check.due("1: wins(true)", x.wins(true), -4);
        Check.due("1: prices(-9)", x.prices(-9), -9);
        for (int s = 0; s < 4; s++) {
            Check.due("1: tear(" + s + ")", x.tear(s), -3);
        }
    }

    private static void wrestler() {
        RankBoard x = new RankBoard();
        Check.due("2: first", x.wrestler(0, 0, -9), 0);
        Check.due("2: second", x.wrestler(1, 7, 0), 1);
        Check.due("2: third", x.wrestler(2, 3, 7), 2);
        Check.due("2: comes to the last rung", x.told(2, 3), 2);
        Check.due("2: leave(0)", x.leave(0), 0);
        Check.due("2: a number is never given again", x.wrestler(0, 0, -9), 3);
        Check.due("2: comes to the last rung", x.on(2), 3);
        Check.due("2: ever", x.count(0), 4);
        Check.due("2: there", x.count(1), 3);
    }

    private static void wrestlerRefused() {
        RankBoard x = new RankBoard();
        int[][] bad = {
            {-1, 0, 0}, {3, 0, 0}, {LOW, 0, 0}, {HIGH, 0, 0}, {0, -1, 0}, {0, 8, 0}, {0, -9, 0}, {0, LOW, 0},
            {0, HIGH, 0}, {0, 0, -1}, {0, 0, 8}, {0, 0, -8}, {0, 0, -10}, {0, 0, LOW}, {0, 0, HIGH}
        };
        long before = x.digest();
        for (int[] b : bad) {
            Check.due("2: BAD " + b[0] + " " + b[1] + " " + b[2], x.wrestler(b[0], b[1], b[2]), -1);
        }
        Check.due("2: BAD changes nothing", x.digest(), before);
        x.wrestler(0, 0, -9);
        x.meet(1);
        Check.due("2: STATE in a meet", x.wrestler(0, 0, -9), -4);
        Check.due("2: BAD ahead of STATE", x.wrestler(0, 0, -1), -1);
        x.draw();
        x.anew();
        for (int i = 1; i < 16; i++) {
            Check.due("2: number", x.wrestler(i % 3, i % 8, -9), i);
        }
        Check.due("2: FULL", x.wrestler(0, 0, -9), -2);
        Check.due("2: BAD ahead of FULL", x.wrestler(3, 0, -9), -1);
        x.leave(5);
        Check.due("2: FULL of those ever", x.wrestler(0, 0, -9), -2);
        x.meet(1);
        Check.due("2: FULL ahead of STATE", x.wrestler(0, 0, -9), -2);
    }

    private static void leave() {
        RankBoard x = four();
        Check.due("3: leave(1)", x.leave(1), 1);
        Check.due("3: those below come up", x.on(1), 2);
        Check.due("3: those below come up", x.on(2), 3);
        Check.due("3: a rung less", x.on(3), -9);
        Check.due("3: rung of 3", x.told(3, 3), 2);
        Check.due("3: rung of 0", x.told(0, 3), 0);
        Check.due("3: there", x.count(1), 3);
        Check.due("3: ever", x.count(0), 4);
        Check.due("3: again", x.leave(1), -3);
        Check.due("3: NOTHING", x.finding(), 1);
        Check.due("3: BAD", x.leave(4), -1);
        Check.due("3: BAD", x.leave(-1), -1);
        Check.due("3: BAD", x.leave(LOW), -1);
        Check.due("3: BAD", x.leave(HIGH), -1);
        x.meet(1);
        Check.due("3: STATE", x.leave(0), -4);
        Check.due("3: STATE ahead of NOTHING", x.leave(1), -4);
        Check.due("3: BAD ahead of STATE", x.leave(4), -1);
        Check.due("3: found once", x.findings(1), 1);
        x.draw();
        x.result(0, true);
        x.anew();
        Check.due("3: last", x.leave(3), 2);
        Check.due("3: first", x.leave(0), 0);
        Check.due("3: the only one", x.leave(2), 0);
        Check.due("3: none", x.count(1), 0);
    }

    private static void told() {
        RankBoard x = new RankBoard();
        x.wrestler(2, 5, 6);
        x.wrestler(1, 4, -9);
        int[] due = {2, 5, 6, 0, 0, 0, 0};
        for (int what = 0; what <= 6; what++) {
            Check.due("4: told(0, " + what + ")", x.told(0, what), due[what]);
        }
        Check.due("4: no kin", x.told(1, 2), -9);
        Check.due("4: rung", x.told(1, 3), 1);
        x.meet(2);
        x.draw();
        x.result(0, false);
        Check.due("4: wins in the meet", x.told(1, 4), 1);
        Check.due("4: losses in the meet", x.told(0, 5), 1);
        x.draw();
        x.playOff();
        Check.due("4: titles", x.told(1, 6), 1);
        Check.due("4: titles", x.told(0, 6), 0);
        x.anew();
        Check.due("4: wins of the latest meet", x.told(1, 4), 1);
        Check.due("4: losses of the latest meet", x.told(0, 5), 1);
        Check.due("4: one that came later", x.wrestler(0, 0, 0), 2);
        Check.due("4: its wins", x.told(2, 4), 0);
        x.meet(1);
        Check.due("4: wins begin with 0", x.told(1, 4), 0);
        Check.due("4: losses begin with 0", x.told(0, 5), 0);
        Check.due("4: titles stay", x.told(1, 6), 1);
        toldRefused();
    }

    private static void toldRefused() {
        RankBoard x = four();
        Check.due("4: BAD", x.told(4, 0), -1);
        Check.due("4: BAD", x.told(-1, 0), -1);
        Check.due("4: BAD", x.told(HIGH, 0), -1);
        Check.due("4: BAD", x.told(0, -1), -1);
        Check.due("4: BAD", x.told(0, 7), -1);
        Check.due("4: BAD", x.told(0, LOW), -1);
        x.leave(2);
        Check.due("4: left", x.told(2, 0), -3);
        Check.due("4: NOTHING", x.finding(), 1);
        Check.due("4: BAD ahead of NOTHING", x.told(2, 7), -1);
        Check.due("4: found", x.findings(1), 1);
    }

    private static void is() {
        RankBoard x = new RankBoard();
        for (int kind = 0; kind <= 2; kind++) {
            x.wrestler(kind, 0, -9);
            for (int asked = 0; asked <= 2; asked++) {
                Check.due("5: is(" + kind + ", " + asked + ")", x.is(kind, asked), asked == 0 || asked == kind ? 1 : 0);
            }
        }
        Check.due("5: BAD", x.is(0, 3), -1);
        Check.due("5: BAD", x.is(0, -1), -1);
        Check.due("5: BAD", x.is(3, 0), -1);
        Check.due("5: BAD", x.is(-1, 0), -1);
        x.leave(1);
        Check.due("5: left", x.is(1, 1), -3);
        Check.due("5: NOTHING", x.finding(), 1);
        Check.due("5: left, of kind 0 too", x.is(1, 0), -3);
        Check.due("5: BAD ahead of NOTHING", x.is(1, 3), -1);
    }

    private static void on() {
        RankBoard x = four();
        for (int r = 0; r < 4; r++) {
            Check.due("6: on(" + r + ")", x.on(r), r);
        }
        Check.due("6: none such", x.on(4), -9);
        Check.due("6: none such", x.on(16), -9);
        Check.due("6: none such", x.on(-1), -9);
        Check.due("6: none such", x.on(LOW), -9);
        Check.due("6: none such", x.on(HIGH), -9);
        Check.due("6: no finding", x.finding(), 0);
    }

    /** Held 0 and 1, young 2 and 3; who is absent loses. */
    private static void mark() {
        RankBoard x = new RankBoard();
        x.wrestler(1, 0, -9);
        x.wrestler(1, 1, -9);
        x.wrestler(2, 2, -9);
        x.wrestler(2, 3, -9);
        x.line(1, 1, 5);
        x.line(-1, -1, -1);
        x.line(-2, -2, -2);
        x.absent(0, true);
        x.absent(1, true);
        Check.due("7: none yet", x.mark(0, 1), 0);
        Check.due("7: none yet", x.mark(2, 2), 0);
        x.meet(1);
        x.draw();
        x.result(0, true);
        x.anew();
        Check.due("7: falling by 1 is no keeping", x.mark(0, 1), 0);
        Check.due("7: as told, though there were not so many", x.mark(2, 2), 5);
        Check.due("7: a young one that falls", x.mark(3, 2), 0);
        for (int times = 1; times <= 2; times++) {
            x.meet(2);
            x.draw();
            x.result(0, true);
            x.draw();
            x.anew();
            Check.due("7: kept", x.mark(0, 1), times);
            Check.due("7: kept", x.mark(1, 1), times);
        }
        Check.due("7: adds up", x.mark(2, 2), 15);
        x.beside(0);
        Check.due("7: beside changes none", x.mark(2, 2), 15);
        Check.due("7: a held one is not young", x.mark(0, 2), -3);
        Check.due("7: UNLIKE", x.finding(), 3);
        Check.due("7: a young one is not held", x.mark(2, 1), -3);
        markRefused(x);
    }

    private static void markRefused(RankBoard x) {
        Check.due("7: BAD kind 0", x.mark(0, 0), -1);
        Check.due("7: BAD", x.mark(0, 3), -1);
        Check.due("7: BAD", x.mark(0, -1), -1);
        Check.due("7: BAD", x.mark(4, 1), -1);
        Check.due("7: BAD", x.mark(-1, 1), -1);
        x.leave(0);
        Check.due("7: left", x.mark(0, 2), -3);
        Check.due("7: NOTHING ahead of UNLIKE", x.finding(), 1);
        Check.due("7: BAD ahead of NOTHING", x.mark(0, 0), -1);
        x.wrestler(0, 0, -9);
        Check.due("7: a plain one is not held", x.mark(4, 1), -3);
        Check.due("7: UNLIKE", x.finding(), 3);
    }

    /** Wins 2 and 1 of stable 0: the mean 1.5 is cut. */
    private static void mean() {
        RankBoard x = new RankBoard();
        x.wrestler(0, 0, -9);
        x.wrestler(0, 1, -9);
        x.wrestler(0, 0, -9);
        x.wrestler(0, 1, -9);
        x.meet(2);
        Check.due("8: of none yet", x.mean(0), 0);
        x.draw();
        x.result(0, true);
        x.result(1, true);
        Check.due("8: 1 and 1", x.mean(0), 1);
        x.draw();
        x.result(2, true);
        x.result(3, true);
        Check.due("8: 2 and 1, cut", x.mean(0), 1);
        Check.due("8: 1 and 0, cut", x.mean(1), 0);
        x.anew();
        Check.due("8: left", x.leave(2), 2);
        Check.due("8: without those that left", x.mean(0), 2);
        Check.due("8: shared among none", x.mean(7), -3);
        Check.due("8: NOUGHT", x.finding(), 4);
        x.leave(3);
        Check.due("8: without the last, that left", x.mean(1), 1);
        x.leave(0);
        Check.due("8: all left", x.mean(0), -3);
        Check.due("8: BAD", x.mean(8), -1);
        Check.due("8: BAD", x.mean(-1), -1);
        Check.due("8: BAD", x.mean(-9), -1);
        Check.due("8: found twice", x.findings(4), 2);
    }

    private static RankBoard four() {
        RankBoard x = new RankBoard();
        for (int i = 0; i < 4; i++) {
            x.wrestler(0, i, -9);
        }
        return x;
    }
}
