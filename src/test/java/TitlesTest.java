/** Promises 29 to 33: leaders, playOff, meets, wins, champion. */
public final class TitlesTest {
    public static void main(String[] args) {
        leaders();
        playOffStates();
        playOffOfOne();
        playOffOfFive();
        titlesAddUp();
        rowByRungs();
        Check.end();
    }

    /** All of one stable: nobody meets, and all lead. */
    private static RankBoard mates(int wrestlers) {
        RankBoard x = new RankBoard();
        for (int i = 0; i < wrestlers; i++) {
            x.wrestler(0, 0, -9);
        }
        return x;
    }

    private static void leaders() {
        RankBoard x = new RankBoard();
        Check.due("29: no meet", x.leaders(), -4);
        for (int i = 0; i < 5; i++) {
            x.wrestler(0, i, -9);
        }
        x.leave(0);
        x.meet(1);
        Check.due("29: all that did not leave", x.leaders(), 30);
        x.draw();
        Check.due("29: all", x.leaders(), 30);
        x.result(1, false);
        Check.due("29: the most wins", x.leaders(), 16);
        x.result(0, true);
        Check.due("29: two of them", x.leaders(), 18);
        x.anew();
        Check.due("29: the meet is over", x.leaders(), -4);
        RankBoard none = new RankBoard();
        none.meet(1);
        Check.due("29: none", none.leaders(), 0);
        RankBoard two = new RankBoard();
        two.wrestler(0, 0, -9);
        two.wrestler(0, 1, -9);
        two.meet(1);
        two.draw();
        two.result(0, true);
        Check.due("29: the one on the top", two.leaders(), 1);
        RankBoard all = mates(16);
        all.meet(1);
        Check.due("29: sixteen", all.leaders(), 65535);
    }

    private static void playOffStates() {
        RankBoard x = new RankBoard();
        x.wrestler(0, 0, -9);
        x.wrestler(0, 1, -9);
        Check.due("30: no meet", x.playOff(), -4);
        x.meet(2);
        Check.due("30: no day drawn", x.playOff(), -4);
        x.draw();
        x.result(0, true);
        Check.due("30: a day lacks", x.playOff(), -4);
        x.draw();
        Check.due("30: begins", x.playOff(), 1);
        Check.due("30: there was one", x.playOff(), -4);
        x.anew();
        Check.due("30: no meet", x.playOff(), -4);
        x.meet(1);
        x.draw();
        Check.due("30: results lack", x.playOff(), -4);
        x.result(0, false);
        Check.due("30: one in this meet", x.playOff(), 1);
        Check.due("33: the other one", x.champion(), 1);
        RankBoard none = mates(1);
        none.leave(0);
        none.meet(1);
        none.draw();
        Check.due("30: no wrestlers", none.playOff(), -4);
        Check.due("30: the board can be written", none.anew(), 0);
        RankBoard two = mates(2);
        two.meet(1);
        two.draw();
        Check.due("30: two", two.playOff(), 2);
        Check.due("30: it goes on", two.playOff(), -4);
        Check.due("31: it is as it was", two.meets(false), 0);
    }

    private static void playOffOfOne() {
        RankBoard x = mates(1);
        x.meet(1);
        x.draw();
        Check.due("33: none", x.champion(), -9);
        Check.due("30: one", x.playOff(), 1);
        Check.due("33: at once", x.champion(), 0);
        Check.due("30: a title", x.told(0, 6), 1);
        Check.due("31: it is over", x.meets(false), -9);
        Check.due("31: it is over", x.meets(true), -9);
        Check.due("32: none meet", x.wins(true), -4);
        Check.due("30: a title once", x.told(0, 6), 1);
    }

    /** The row 0 1 2 3 4: 1 beats 0, 2 beats 3, 4 beats 1, 2 beats 4. */
    private static void playOffOfFive() {
        RankBoard x = mates(5);
        Check.due("31: none", x.meets(false), -9);
        Check.due("32: none meet", x.wins(false), -4);
        x.meet(1);
        x.draw();
        Check.due("32: none meet", x.wins(false), -4);
        Check.due("30: five", x.playOff(), 5);
        int[][] bouts = {{0, 1, 0, 4}, {2, 3, 1, 3}, {4, 1, 1, 2}, {2, 4, 1, 1}};
        for (int[] b : bouts) {
            Check.due("31: first", x.meets(false), b[0]);
            Check.due("31: second", x.meets(true), b[1]);
            Check.due("33: not yet", x.champion(), -9);
            Check.due("32: left", x.wins(b[2] == 1), b[3]);
        }
        Check.due("33: the champion", x.champion(), 2);
        Check.due("32: a title", x.told(2, 6), 1);
        Check.due("32: none for the others", x.told(4, 6), 0);
        Check.due("31: over", x.meets(false), -9);
        Check.due("31: over", x.meets(true), -9);
        Check.due("32: over", x.wins(true), -4);
        Check.due("4: no wins by it", x.told(2, 4), 0);
    }

    private static void titlesAddUp() {
        RankBoard x = mates(2);
        for (int times = 1; times <= 3; times++) {
            x.meet(1);
            x.draw();
            x.playOff();
            Check.due("33: the latest that is over", x.champion(), times == 1 ? -9 : 1);
            x.wins(false);
            Check.due("32: titles", x.told(1, 6), times);
            x.anew();
        }
        x.meet(1);
        x.draw();
        x.anew();
        Check.due("33: without a play-off it stays", x.champion(), 1);
        x.leave(1);
        Check.due("33: though it left", x.champion(), 1);
    }

    /** The row is by rungs, not by numbers. */
    private static void rowByRungs() {
        RankBoard x = mates(3);
        x.line(-1, -1, -9);
        x.absent(0, true);
        x.meet(1);
        x.draw();
        Check.due("24: 0 falls", x.anew(), 3);
        x.absent(0, false);
        x.meet(1);
        x.draw();
        Check.due("29: all", x.leaders(), 7);
        Check.due("30: all", x.playOff(), 3);
        Check.due("31: first", x.meets(false), 1);
        Check.due("31: second", x.meets(true), 2);
        x.wins(true);
        Check.due("31: then", x.meets(false), 0);
        Check.due("31: then", x.meets(true), 1);
    }
}
