/** Promises 23 to 28: line, anew, why, passed, beside, rungBeside. */
public final class AnewTest {
    private static final int LOW = Integer.MIN_VALUE, HIGH = Integer.MAX_VALUE;

    public static void main(String[] args) {
        line();
        firstLineThatFits();
        anewStates();
        anewOrder();
        ties();
        whyAndPassed();
        beside();
        besideScores();
        besideStates();
        besideLines();
        rungBeside();
        Check.end();
    }

    private static void line() {
        RankBoard x = new RankBoard();
        Check.due("23: BAD low above high", x.line(1, 0, 0), -1);
        Check.due("23: BAD low above high", x.line(HIGH, LOW, 0), -1);
        Check.due("23: BAD up", x.line(0, 0, 16), -1);
        Check.due("23: BAD up", x.line(0, 0, -16), -1);
        Check.due("23: BAD up", x.line(0, 0, LOW), -1);
        Check.due("23: BAD up", x.line(0, 0, HIGH), -1);
        Check.due("23: none", x.count(6), 0);
        Check.due("23: the widest", x.line(LOW, HIGH, 15), 0);
        Check.due("23: the narrowest", x.line(0, 0, -15), 1);
        x.meet(1);
        Check.due("23: in a meet, too", x.line(-99, 99, 0), 2);
        for (int i = 3; i < 12; i++) {
            Check.due("23: number", x.line(0, 1, 0), i);
        }
        Check.due("23: FULL", x.line(0, 1, 0), -2);
        Check.due("23: BAD ahead of FULL", x.line(1, 0, 0), -1);
        Check.due("23: lines", x.count(6), 12);
    }

    /** Scores 1, -1, 0: the last of three sits out. */
    private static void firstLineThatFits() {
        RankBoard x = apart(3);
        x.line(2, 9, 3);
        x.line(1, 1, 0);
        x.line(0, 2, 5);
        x.line(-9, -2, -3);
        x.meet(1);
        x.draw();
        x.result(0, true);
        Check.due("24: 2 goes to the top", x.anew(), 3);
        Check.due("25: of two the first", x.why(0), 1);
        Check.due("25: none fits", x.why(1), -9);
        Check.due("25: low is in it", x.why(2), 2);
        Check.due("24: by it", x.on(0), 2);
    }

    private static void anewStates() {
        RankBoard x = apart(2);
        Check.due("24: no meet", x.anew(), -4);
        x.meet(2);
        Check.due("24: no day drawn", x.anew(), -4);
        x.draw();
        Check.due("24: results lack, a day lacks", x.anew(), -4);
        x.result(0, true);
        Check.due("24: a day lacks", x.anew(), -4);
        x.draw();
        x.line(1, 1, -1);
        Check.due("24: all done", x.anew(), 2);
        Check.due("24: the meet is over", x.count(3), 0);
        Check.due("24: written", x.count(7), 1);
        Check.due("24: no meet", x.anew(), -4);
        x.meet(1);
        x.draw();
        Check.due("24: results lack", x.anew(), -4);
        Check.due("24: refused changes nothing", x.on(0), 1);
        RankBoard y = new RankBoard();
        for (int i = 0; i < 2; i++) {
            y.wrestler(0, 0, -9);
        }
        y.meet(1);
        y.draw();
        y.playOff();
        Check.due("24: a play-off goes on", y.anew(), -4);
        y.wins(true);
        Check.due("24: it is over", y.anew(), 0);
    }

    /** A plain one, a held one, a young one, a plain one; 0 beats 1 and 2 beats 3. */
    private static RankBoard kinds() {
        RankBoard x = new RankBoard();
        x.wrestler(0, 0, -9);
        x.wrestler(1, 1, -9);
        x.wrestler(2, 2, -9);
        x.wrestler(0, 3, -9);
        x.line(1, 1, 1);
        x.line(-1, -1, -3);
        x.meet(1);
        x.draw();
        x.result(0, true);
        x.result(1, true);
        return x;
    }

    private static void rungs(String what, RankBoard x, int... due) {
        for (int r = 0; r < due.length; r++) {
            Check.due("24: " + what + ", on(" + r + ")", x.on(r), due[r]);
            Check.due("24: " + what + ", rung", x.told(due[r], 3), r);
        }
    }

    /** Aims -1.5, 2.5 (held), -0.5 (young), 6.5. */
    private static void anewOrder() {
        RankBoard x = kinds();
        Check.due("24: changed", x.anew(), 2);
        rungs("kinds", x, 0, 2, 1, 3);
        Check.due("7: kept", x.mark(1, 1), 1);
        Check.due("7: more", x.mark(2, 2), 1);
        Check.due("4: wins stay", x.told(0, 4), 1);
    }

    /** Half a rung: one that goes up by 1 comes above the one there; one that goes down, below. */
    private static void ties() {
        RankBoard x = absentOnes(3, 2);
        x.line(-1, -1, 1);
        x.meet(1);
        x.draw();
        Check.due("24: up by 1 passes one", x.anew(), 2);
        rungs("up by 1", x, 0, 2, 1);
        RankBoard y = absentOnes(3, 0);
        y.line(-1, -1, -1);
        y.meet(1);
        y.draw();
        Check.due("24: down by 1 passes one", y.anew(), 2);
        rungs("down by 1", y, 1, 0, 2);
        RankBoard z = absentOnes(4, 0);
        z.line(-2, -2, -1);
        z.line(-1, -1, 1);
        z.meet(2);
        z.draw();
        z.absent(3, true);
        z.draw();
        Check.due("24: 0 and 3 aim at 1.5", z.anew(), 4);
        rungs("like aims", z, 1, 0, 3, 2);
    }

    /** So many of one stable, one of them absent: it alone gets losses, and none wins. */
    private static RankBoard absentOnes(int wrestlers, int absent) {
        RankBoard x = new RankBoard();
        for (int i = 0; i < wrestlers; i++) {
            x.wrestler(0, 0, -9);
        }
        x.absent(absent, true);
        return x;
    }

    private static void whyAndPassed() {
        RankBoard x = kinds();
        Check.due("25: not written", x.why(0), -9);
        Check.due("26: not written", x.passed(2, 1), 0);
        x.anew();
        int[] why = {0, 1, 0, 1};
        for (int w = 0; w < 4; w++) {
            Check.due("25: why(" + w + ")", x.why(w), why[w]);
            for (int b = 0; b < 4; b++) {
                Check.due("26: passed(" + w + ", " + b + ")", x.passed(w, b), w == 2 && b == 1 ? 1 : 0);
            }
        }
        x.wrestler(0, 0, -9);
        Check.due("25: was not there", x.why(4), -9);
        Check.due("26: was not there", x.passed(4, 0), 0);
        Check.due("26: was not there", x.passed(0, 4), 0);
        x.leave(0);
        Check.due("26: then, whoever left since", x.passed(2, 1), 1);
        x.meet(1);
        Check.due("25: the latest, in a meet", x.why(2), 0);
        Check.due("26: the latest, in a meet", x.passed(2, 1), 1);
        whyAndPassedRefused(x);
        for (int w = 1; w < 5; w++) {
            x.absent(w, true);
        }
        x.draw();
        x.anew();
        Check.due("25: anew", x.why(2), 1);
        Check.due("25: was there now", x.why(4), 1);
        Check.due("26: anew", x.passed(1, 2), 1);
    }

    private static void whyAndPassedRefused(RankBoard x) {
        int before = x.findings(1);
        Check.due("25: left", x.why(0), -3);
        Check.due("25: BAD", x.why(5), -1);
        Check.due("25: BAD", x.why(-1), -1);
        Check.due("25: BAD", x.why(LOW), -1);
        Check.due("26: left", x.passed(0, 1), -3);
        Check.due("26: left", x.passed(1, 0), -3);
        Check.due("26: NOTHING", x.finding(), 1);
        Check.due("26: NOTHING", x.findings(1), before + 3);
        Check.due("26: BAD", x.passed(5, 1), -1);
        Check.due("26: BAD", x.passed(1, 5), -1);
        Check.due("26: BAD", x.passed(-1, 1), -1);
        Check.due("26: BAD ahead of NOTHING", x.passed(0, HIGH), -1);
        Check.due("26: twice the same is not BAD", x.passed(1, 1), 0);
    }

    /** Without bout 0: aims 0, 1, -0.5, 6.5; without bout 1: -1.5, 2.5, 2, 3. */
    private static void beside() {
        RankBoard x = kinds();
        x.anew();
        long before = x.digest();
        Check.due("27: without bout 0", x.beside(0), 2);
        int[] rungs = {1, 2, 0, 3};
        for (int w = 0; w < 4; w++) {
            Check.due("28: rungBeside(" + w + ")", x.rungBeside(w), rungs[w]);
        }
        Check.due("27: without bout 1", x.beside(1), 0);
        Check.due("28: as it is", x.rungBeside(2), 1);
        Check.due("27: the board itself stays", x.digest(), before);
        Check.due("27: so does what was passed", x.passed(2, 1), 1);
        Check.due("27: so does why", x.why(0), 0);
        Check.due("27: so does the mark", x.mark(2, 2), 1);
        Check.due("27: again", x.beside(0), 2);
    }

    /** Without its only bout the winner has score 0, and so has the loser; nobody has 2 or -2. */
    private static void besideScores() {
        RankBoard x = apart(4);
        x.line(0, 0, 0);
        x.line(2, 2, -15);
        x.line(-2, -2, 15);
        x.meet(1);
        x.draw();
        x.result(0, true);
        x.result(1, false);
        Check.due("24: none moves", x.anew(), 0);
        Check.due("27: none moves, the upper one had won", x.beside(0), 0);
        Check.due("27: none moves, the lower one had won", x.beside(1), 0);
        RankBoard y = apart(2);
        y.line(0, 0, -1);
        y.meet(1);
        y.draw();
        y.result(0, false);
        Check.due("24: none moves", y.anew(), 0);
        Check.due("27: both go down by 1", y.beside(0), 0);
        y.meet(2);
        y.draw();
        y.result(0, true);
        y.absent(0, true);
        y.draw();
        Check.due("24: 0 won and was absent: it goes down", y.anew(), 2);
        Check.due("27: 0 was only absent and stays, 1 goes down", y.beside(0), 2);
    }

    private static void besideStates() {
        RankBoard x = kinds();
        Check.due("27: not written", x.beside(0), -4);
        Check.due("27: BAD ahead of STATE", x.beside(2), -1);
        x.anew();
        Check.due("27: written", x.beside(0), 2);
        Check.due("27: BAD", x.beside(2), -1);
        Check.due("27: BAD", x.beside(-1), -1);
        Check.due("27: BAD", x.beside(LOW), -1);
        Check.due("27: BAD", x.beside(HIGH), -1);
        x.absent(0, true);
        Check.due("27: absence is no matter", x.beside(0), 2);
        x.leave(3);
        Check.due("27: one left", x.beside(0), -4);
        Check.due("28: the latest that was not refused", x.rungBeside(2), 0);
        x.meet(1);
        Check.due("27: no bouts in this meet", x.beside(0), -1);
        x.draw();
        Check.due("27: a new meet", x.beside(0), -4);
        Check.due("28: the latest, in a meet", x.rungBeside(2), 0);
        x.result(0, true);
        x.anew();
        Check.due("27: written again", x.beside(0) >= 0 ? 1 : 0, 1);
        RankBoard y = kinds();
        y.anew();
        y.wrestler(0, 0, -9);
        Check.due("27: one came", y.beside(0), -4);
        RankBoard z = kinds();
        z.anew();
        z.wrestler(3, 0, -9);
        z.leave(9);
        Check.due("27: none came, none left", z.beside(0), 2);
    }

    /** Lines that came later are no matter: the board is worked as it would have been written then. */
    private static void besideLines() {
        RankBoard x = kinds();
        x.anew();
        x.line(0, 0, -15);
        Check.due("27: without bout 0", x.beside(0), 2);
        Check.due("28: no line at 0 then", x.rungBeside(0), 1);
    }

    private static void rungBeside() {
        RankBoard x = kinds();
        Check.due("28: there was none", x.rungBeside(0), -9);
        x.anew();
        Check.due("28: there was none", x.rungBeside(0), -9);
        x.beside(5);
        Check.due("28: it was refused", x.rungBeside(0), -9);
        x.beside(0);
        Check.due("28: there was one", x.rungBeside(0), 1);
        x.beside(5);
        Check.due("28: the refused one is no matter", x.rungBeside(0), 1);
        Check.due("28: BAD", x.rungBeside(4), -1);
        Check.due("28: BAD", x.rungBeside(-1), -1);
        Check.due("28: BAD", x.rungBeside(HIGH), -1);
        x.wrestler(0, 0, -9);
        Check.due("28: one that came later", x.rungBeside(4), -9);
        x.leave(0);
        Check.due("28: left", x.rungBeside(0), -3);
        Check.due("28: NOTHING", x.finding(), 1);
        Check.due("28: as it was worked", x.rungBeside(3), 3);
    }

    private static RankBoard apart(int wrestlers) {
        RankBoard x = new RankBoard();
        for (int i = 0; i < wrestlers; i++) {
            x.wrestler(0, i, -9);
        }
        return x;
    }
}
