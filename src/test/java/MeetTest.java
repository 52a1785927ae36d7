/** Promises 15 to 22: meet, absent, barred, draw, cost, result, bout, sat. */
public final class MeetTest {
    private static final int LOW = Integer.MIN_VALUE, HIGH = Integer.MAX_VALUE;

    public static void main(String[] args) {
        meet();
        absent();
        barred();
        drawStates();
        drawLike();
        drawTies();
        drawSitting();
        drawAbsent();
        drawGreatest();
        costAndSatStay();
        result();
        bout();
        Check.end();
    }

    private static RankBoard apart(int wrestlers) {
        RankBoard x = new RankBoard();
        for (int i = 0; i < wrestlers; i++) {
            x.wrestler(0, i, -9);
        }
        return x;
    }

    private static void meet() {
        RankBoard x = apart(3);
        x.leave(0);
        Check.due("15: BAD", x.meet(0), -1);
        Check.due("15: BAD", x.meet(16), -1);
        Check.due("15: BAD", x.meet(-9), -1);
        Check.due("15: BAD", x.meet(LOW), -1);
        Check.due("15: BAD", x.meet(HIGH), -1);
        Check.due("15: those that are there", x.meet(15), 2);
        Check.due("15: days", x.count(3), 15);
        Check.due("15: STATE", x.meet(1), -4);
        Check.due("15: BAD ahead of STATE", x.meet(16), -1);
        RankBoard y = apart(2);
        y.meet(1);
        y.draw();
        y.result(0, true);
        y.anew();
        Check.due("15: again", y.meet(1), 2);
        Check.due("15: no bouts", y.count(4), 0);
        Check.due("15: no days drawn", y.count(2), 0);
        Check.due("15: they may meet again", y.barred(0, 1), 0);
        Check.due("15: and do", y.draw(), 1);
        Check.due("15: none", new RankBoard().meet(1), 0);
    }

    private static void absent() {
        RankBoard x = apart(2);
        Check.due("16: was not", x.absent(0, true), 0);
        Check.due("16: was", x.absent(0, true), 1);
        Check.due("16: was", x.absent(0, false), 1);
        Check.due("16: was not", x.absent(0, false), 0);
        Check.due("16: of each alone", x.absent(1, true), 0);
        x.meet(1);
        x.draw();
        x.anew();
        Check.due("16: stays behind a meet", x.absent(1, true), 1);
        Check.due("16: BAD", x.absent(2, true), -1);
        Check.due("16: BAD", x.absent(-1, true), -1);
        Check.due("16: BAD", x.absent(HIGH, false), -1);
        x.leave(1);
        Check.due("16: left", x.absent(1, false), -3);
        Check.due("16: NOTHING", x.finding(), 1);
    }

    private static void barred() {
        RankBoard x = new RankBoard();
        x.wrestler(0, 0, 1);
        x.wrestler(0, 0, 1);
        x.wrestler(0, 1, 1);
        x.wrestler(0, 1, -9);
        x.wrestler(0, 2, -9);
        x.wrestler(0, 2, 0);
        Check.due("17: stable and kin", x.barred(0, 1), 3);
        Check.due("17: kin", x.barred(0, 2), 2);
        Check.due("17: kin", x.barred(2, 0), 2);
        Check.due("17: stable", x.barred(2, 3), 1);
        Check.due("17: no kin is no kin", x.barred(3, 4), 0);
        x.meet(2);
        Check.due("17: draw", x.draw(), 3);
        int a = x.bout(0, 1);
        int b = x.bout(0, 2);
        Check.due("17: met", x.barred(a, b), 4);
        Check.due("17: met", x.barred(b, a), 4);
        for (int i = 0; i < 3; i++) {
            x.result(i, true);
        }
        Check.due("17: met", x.barred(a, b), 4);
        int bouts = x.draw();
        for (int i = 3; i < 3 + bouts; i++) {
            x.result(i, true);
        }
        Check.due("17: over", x.anew(), 0);
        Check.due("17: in the meet that goes on only", x.barred(a, b), 0);
        Check.due("17: BAD twice the same", x.barred(1, 1), -1);
        Check.due("17: BAD", x.barred(6, 1), -1);
        Check.due("17: BAD", x.barred(1, 6), -1);
        Check.due("17: BAD", x.barred(-1, 1), -1);
        Check.due("17: BAD", x.barred(1, LOW), -1);
        x.leave(1);
        Check.due("17: left", x.barred(0, 1), -3);
        Check.due("17: left", x.barred(1, 0), -3);
        Check.due("17: NOTHING", x.findings(1), 2);
        Check.due("17: BAD ahead of NOTHING", x.barred(1, 1), -1);
        Check.due("17: BAD ahead of NOTHING", x.barred(1, 9), -1);
    }

    private static void drawStates() {
        RankBoard x = apart(2);
        Check.due("18: no meet", x.draw(), -4);
        x.meet(2);
        Check.due("18: draw", x.draw(), 1);
        Check.due("18: a day", x.count(2), 1);
        Check.due("18: results lack", x.draw(), -4);
        x.result(0, true);
        Check.due("18: nobody twice", x.draw(), 0);
        Check.due("18: sat", x.sat(), 3);
        Check.due("18: all days were drawn", x.draw(), -4);
        x.anew();
        Check.due("18: no meet", x.draw(), -4);
        Check.due("18: days of the latest one", x.count(2), 2);
    }

    /** After 0 and 3 won, those with like wins meet, though their rungs are apart. */
    private static void drawLike() {
        RankBoard x = apart(4);
        x.meet(3);
        Check.due("18: draw", x.draw(), 2);
        Check.due("19: two by 1", x.cost(), 2);
        x.result(0, true);
        x.result(1, false);
        x.draw();
        Check.due("18: the like meet", x.bout(2, 1), 0);
        Check.due("18: the like meet", x.bout(2, 2), 3);
        Check.due("18: the like meet", x.bout(3, 1), 1);
        Check.due("18: the like meet", x.bout(3, 2), 2);
        Check.due("19: 3 and 1", x.cost(), 4);
        x.result(2, true);
        x.result(3, true);
        x.draw();
        Check.due("18: who is left", x.bout(4, 2), 2);
        Check.due("19: 0 and 2 two wins and two rungs apart, 1 and 3 two rungs", x.cost(), 16 + 2 + 2);
        RankBoard y = apart(4);
        y.sheet(0, 2);
        y.lay(0, 0, 100);
        y.lay(0, 1, 1);
        y.prices(0);
        y.meet(2);
        y.draw();
        Check.due("19: by the sheet", y.cost(), 202);
        y.result(0, true);
        y.result(1, false);
        y.draw();
        Check.due("18: the unlike meet by the sheet", y.bout(2, 2), 2);
        Check.due("19: by the sheet", y.cost(), 2 + 2 + 1 + 1);
    }

    /** Of like cost the uppermost gets the uppermost mate, and sits out last. */
    private static void drawTies() {
        RankBoard x = apart(4);
        x.sheet(0, 0);
        x.prices(0);
        x.meet(2);
        x.draw();
        Check.due("18: 0 with 1", x.bout(0, 2), 1);
        x.result(0, true);
        x.result(1, true);
        x.draw();
        Check.due("18: 0-2, 1-3 and 0-3, 1-2 cost the same", x.cost(), 4);
        Check.due("18: 0 with 2", x.bout(2, 2), 2);
        Check.due("18: 1 with 3", x.bout(3, 2), 3);
        RankBoard y = apart(3);
        y.meet(1);
        Check.due("18: three", y.draw(), 1);
        Check.due("19: one sits out", y.cost(), 10001);
        Check.due("18: the uppermost not", y.bout(0, 1), 0);
        Check.due("22: the last", y.sat(), 4);
    }

    private static void drawSitting() {
        RankBoard x = new RankBoard();
        x.wrestler(0, 0, -9);
        x.wrestler(0, 1, 5);
        x.wrestler(0, 0, 5);
        x.wrestler(0, 0, 5);
        x.meet(1);
        Check.due("18: mates and kin never", x.draw(), 1);
        Check.due("19: two sit out", x.cost(), 20001);
        Check.due("22: two sit out", x.sat(), 12);
        Check.due("18: the pair", x.bout(0, 1), 0);
        Check.due("18: the pair", x.bout(0, 2), 1);
        Check.due("22: no loss for it", x.told(2, 5), 0);
        RankBoard none = new RankBoard();
        none.meet(1);
        Check.due("18: none there", none.draw(), 0);
        Check.due("19: none there", none.cost(), 0);
        Check.due("22: none there", none.sat(), 0);
    }

    private static void drawAbsent() {
        RankBoard x = apart(4);
        x.meet(3);
        x.absent(1, true);
        Check.due("18: three are there", x.draw(), 1);
        Check.due("19: rungs stay as they are", x.cost(), 10001);
        Check.due("22: an absent one does not sit out", x.sat(), 1);
        Check.due("18: cheapest of all", x.bout(0, 1), 2);
        Check.due("18: a loss", x.told(1, 5), 1);
        Check.due("18: no win", x.told(1, 4), 0);
        x.absent(1, false);
        Check.due("18: as it was drawn", x.told(1, 5), 1);
        x.absent(0, true);
        Check.due("18: as it was drawn", x.told(0, 5), 0);
        x.result(0, true);
        x.absent(2, true);
        Check.due("18: two are there", x.draw(), 1);
        Check.due("18: 1 with 3", x.bout(1, 1), 1);
        Check.due("19: no wins, 2 rungs", x.cost(), 2);
        Check.due("22: none", x.sat(), 0);
        x.result(1, true);
        for (int w = 0; w < 4; w++) {
            x.absent(w, true);
        }
        Check.due("18: none is there", x.draw(), 0);
        Check.due("19: none is there", x.cost(), 0);
        Check.due("18: two bouts lost, and a day absent", x.told(3, 5), 3);
    }

    /** Sixteen wrestlers over fifteen days: each meets each once, and never twice. */
    private static void drawGreatest() {
        RankBoard x = new RankBoard();
        for (int i = 0; i < 16; i++) {
            x.wrestler(0, i % 8, -9);
        }
        x.meet(15);
        boolean[][] met = new boolean[16][16];
        int number = 0;
        for (int day = 0; day < 15; day++) {
            int bouts = x.draw();
            int sitting = Integer.bitCount(x.sat());
            Check.due("18: all are in it", 2 * bouts + sitting, 16);
            Check.due("19: who sits out", x.cost() / 10000, sitting);
            for (int i = 0; i < bouts; i++) {
                int a = x.bout(number, 1);
                int b = x.bout(number, 2);
                Check.due("21: day", x.bout(number, 0), day);
                Check.holds("18: upper first", x.told(a, 3) < x.told(b, 3));
                Check.holds("18: nobody twice", !met[a][b]);
                Check.holds("18: no mates", a % 8 != b % 8);
                met[a][b] = true;
                x.result(number, (number & 2) == 0);
                number++;
            }
        }
        Check.due("34: bouts", x.count(4), number);
        Check.due("18: all days", x.draw(), -4);
    }

    /** Both are of the latest day that was drawn, also when a new meet has begun. */
    private static void costAndSatStay() {
        RankBoard x = apart(3);
        x.meet(1);
        Check.due("19: before", x.cost(), 0);
        Check.due("22: before", x.sat(), 0);
        x.draw();
        x.result(0, true);
        x.anew();
        Check.due("19: behind the meet", x.cost(), 10001);
        Check.due("22: behind the meet", x.sat(), 4);
        x.meet(1);
        Check.due("19: until a day is drawn", x.cost(), 10001);
        Check.due("22: until a day is drawn", x.sat(), 4);
        x.absent(0, true);
        x.draw();
        Check.due("19: the latest", x.cost(), 1);
        Check.due("22: the latest", x.sat(), 0);
    }

    private static void result() {
        RankBoard x = apart(4);
        Check.due("20: BAD", x.result(0, true), -1);
        x.meet(1);
        Check.due("20: BAD", x.result(0, true), -1);
        x.draw();
        Check.due("20: the second first", x.result(1, false), 1);
        Check.due("20: won", x.told(3, 4), 1);
        Check.due("20: won", x.told(3, 5), 0);
        Check.due("20: lost", x.told(2, 4), 0);
        Check.due("20: lost", x.told(2, 5), 1);
        Check.due("20: lack", x.count(5), 1);
        Check.due("20: has one", x.result(1, true), -4);
        Check.due("20: changes nothing", x.told(3, 4), 1);
        Check.due("20: upper", x.result(0, true), 1);
        Check.due("20: won", x.told(0, 4), 1);
        Check.due("20: lost", x.told(1, 5), 1);
        Check.due("20: lack", x.count(5), 0);
        Check.due("20: BAD", x.result(2, true), -1);
        Check.due("20: BAD", x.result(-1, true), -1);
        Check.due("20: BAD", x.result(LOW, true), -1);
        Check.due("20: BAD", x.result(HIGH, true), -1);
        x.anew();
        Check.due("20: has one, of the latest meet", x.result(0, true), -4);
    }

    private static void bout() {
        RankBoard x = apart(4);
        x.meet(2);
        x.draw();
        int[] due = {0, 2, 3, -9};
        for (int what = 0; what < 4; what++) {
            Check.due("21: bout(1, " + what + ")", x.bout(1, what), due[what]);
        }
        x.result(0, false);
        x.result(1, true);
        Check.due("21: lower won", x.bout(0, 3), 1);
        Check.due("21: upper won", x.bout(1, 3), 2);
        x.draw();
        Check.due("21: day", x.bout(2, 0), 1);
        Check.due("21: none won", x.bout(2, 3), -9);
        Check.due("21: BAD", x.bout(4, 0), -1);
        Check.due("21: BAD", x.bout(-1, 0), -1);
        Check.due("21: BAD", x.bout(0, 4), -1);
        Check.due("21: BAD", x.bout(0, -1), -1);
        Check.due("21: BAD", x.bout(HIGH, LOW), -1);
        x.result(2, true);
        x.result(3, true);
        x.anew();
        Check.due("21: of the latest meet", x.bout(3, 0), 1);
        x.leave(1);
        Check.due("21: one that left", x.bout(0, 3), 1);
        x.meet(1);
        Check.due("21: of a new meet none", x.bout(0, 0), -1);
        x.draw();
        Check.due("21: none won yet", x.bout(0, 3), -9);
    }
}
