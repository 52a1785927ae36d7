/** Promises 9 to 14: sheet, lay, tear, copy, prices, price. */
public final class SheetsTest {
    private static final int LOW = Integer.MIN_VALUE, HIGH = Integer.MAX_VALUE;

    public static void main(String[] args) {
        sheet();
        lay();
        tear();
        copy();
        copyRefused();
        prices();
        price();
        Check.end();
    }

    private static void sheet() {
        RankBoard x = new RankBoard();
        Check.due("9: sheet(0, 0)", x.sheet(0, 0), 0);
        Check.due("9: sheet(3, 16)", x.sheet(3, 16), 16);
        Check.due("9: bytes are 0", x.lay(3, 15, 5), 1000);
        Check.due("9: there anew", x.sheet(3, 16), 16);
        Check.due("9: bytes are 0 anew", x.lay(3, 15, 5), 1000);
        x.sheet(3, 2);
        x.sheet(3, 16);
        Check.due("9: bytes are 0 after a small one", x.lay(3, 15, 5), 1000);
        long before = x.digest();
        Check.due("9: BAD n", x.sheet(3, 17), -1);
        Check.due("9: BAD n", x.sheet(3, HIGH), -1);
        Check.due("9: BAD s", x.sheet(4, 1), -1);
        Check.due("9: BAD s", x.sheet(-1, 1), -1);
        Check.due("9: BAD s ahead of SIZE", x.sheet(-9, -1), -1);
        Check.due("9: no finding", x.finding(), 0);
        Check.due("9: SIZE", x.sheet(3, -1), -3);
        Check.due("9: SIZE", x.sheet(3, LOW), -3);
        Check.due("9: SIZE", x.finding(), 5);
        Check.due("9: found twice", x.findings(5), 2);
        Check.due("9: refused changes nothing", x.digest(), before);
    }

    private static void lay() {
        RankBoard x = new RankBoard();
        Check.due("10: missing", x.lay(1, 0, 1), -3);
        Check.due("10: NOTHING", x.finding(), 1);
        Check.due("10: NOTHING ahead of BEYOND", x.lay(1, -1, 1), -3);
        Check.due("10: NOTHING ahead of BEYOND", x.finding(), 1);
        x.sheet(1, 2);
        Check.due("10: lay", x.lay(1, 0, 127), 1000);
        Check.due("10: 127", x.lay(1, 0, 128), 1127);
        Check.due("10: 128 cut", x.lay(1, 0, 255), 872);
        Check.due("10: 255 cut", x.lay(1, 0, 256), 999);
        Check.due("10: 256 cut", x.lay(1, 0, LOW + 3), 1000);
        Check.due("10: cut", x.lay(1, 0, -129), 1003);
        Check.due("10: -129 cut", x.lay(1, 0, 0), 1127);
        Check.due("10: the other byte", x.lay(1, 1, 0), 1000);
        Check.due("10: BEYOND", x.lay(1, 2, 1), -3);
        Check.due("10: BEYOND", x.finding(), 2);
        Check.due("10: BEYOND", x.lay(1, -1, 1), -3);
        Check.due("10: BEYOND", x.lay(1, HIGH, 1), -3);
        Check.due("10: BEYOND", x.lay(1, LOW, 1), -3);
        Check.due("10: found", x.findings(2), 4);
        Check.due("10: BAD", x.lay(4, 0, 1), -1);
        Check.due("10: BAD", x.lay(-1, 0, 1), -1);
        x.sheet(2, 0);
        Check.due("10: none in it", x.lay(2, 0, 1), -3);
        Check.due("10: BEYOND", x.findings(2), 5);
    }

    private static void tear() {
        RankBoard x = new RankBoard();
        x.sheet(2, 0);
        Check.due("11: an empty one is there", x.tear(2), 1);
        Check.due("11: missing", x.tear(2), -3);
        Check.due("11: NOTHING", x.finding(), 1);
        Check.due("11: missing for lay", x.lay(2, 0, 1), -3);
        Check.due("11: NOTHING", x.finding(), 1);
        Check.due("11: BAD", x.tear(4), -1);
        Check.due("11: BAD", x.tear(-1), -1);
        Check.due("11: BAD", x.tear(-9), -1);
    }

    private static RankBoard twoSheets() {
        RankBoard x = new RankBoard();
        x.sheet(0, 4);
        x.sheet(1, 3);
        for (int i = 0; i < 4; i++) {
            x.lay(0, i, i + 1);
        }
        return x;
    }

    private static void bytes(String what, RankBoard x, int s, int... due) {
        for (int i = 0; i < due.length; i++) {
            int got = x.lay(s, i, 0);
            x.lay(s, i, got - 1000);
            Check.due("12: " + what + ", byte " + i, got, due[i] + 1000);
        }
    }

    private static void copy() {
        RankBoard x = twoSheets();
        Check.due("12: to another", x.copy(0, 1, 1, 0, 3), 1);
        bytes("to another", x, 1, 2, 3, 4);
        Check.due("12: down in itself", x.copy(0, 0, 0, 1, 3), 1);
        bytes("as if taken ahead", x, 0, 1, 1, 2, 3);
        Check.due("12: up in itself", x.copy(0, 1, 0, 0, 3), 1);
        bytes("as if taken ahead", x, 0, 1, 2, 3, 3);
        Check.due("12: none, from the end on", x.copy(0, 4, 1, 3, 0), 1);
        Check.due("12: none", x.copy(0, 0, 1, 0, 0), 1);
        bytes("none", x, 1, 2, 3, 4);
        Check.due("12: one", x.copy(1, 2, 0, 3, 1), 1);
        bytes("one", x, 0, 1, 2, 3, 4);
    }

    private static void copyRefused() {
        RankBoard x = twoSheets();
        int[][] beyond = {
            {-1, 0, 1}, {0, -1, 1}, {0, 0, -1}, {0, 0, 4}, {2, 0, 3}, {0, 1, 3}, {4, 0, 1}, {0, 3, 1}, {5, 0, 0},
            {0, 4, 0}, {LOW, 0, 1}, {0, LOW, 1}, {0, 0, LOW}, {HIGH, 0, 1}, {0, HIGH, 1}, {0, 0, HIGH},
            {HIGH, HIGH, HIGH}, {1, 0, HIGH}, {HIGH, 0, 2}, {0, HIGH, 3}, {2, 2, LOW}
        };
        long before = x.digest();
        for (int[] b : beyond) {
            Check.due("12: BEYOND " + b[0] + " " + b[1] + " " + b[2], x.copy(0, b[0], 1, b[1], b[2]), -3);
            Check.due("12: BEYOND", x.finding(), 2);
        }
        Check.due("12: found", x.findings(2), beyond.length);
        Check.due("12: from a missing one", x.copy(2, 0, 1, 0, 1), -3);
        Check.due("12: NOTHING", x.finding(), 1);
        x.copy(0, -1, 1, 0, 1);
        Check.due("12: to a missing one", x.copy(0, 0, 2, 0, 1), -3);
        Check.due("12: NOTHING", x.finding(), 1);
        x.copy(0, -1, 1, 0, 1);
        Check.due("12: NOTHING ahead of BEYOND", x.copy(0, -1, 2, 0, 1), -3);
        Check.due("12: NOTHING ahead of BEYOND", x.finding(), 1);
        Check.due("12: BAD", x.copy(4, 0, 1, 0, 1), -1);
        Check.due("12: BAD", x.copy(-1, 0, 1, 0, 1), -1);
        Check.due("12: BAD", x.copy(0, 0, 4, 0, 1), -1);
        Check.due("12: BAD", x.copy(0, 0, -1, 0, 1), -1);
        Check.due("12: BAD ahead of NOTHING", x.copy(2, 0, 4, 0, 1), -1);
        Check.due("12: refused changes nothing", x.digest(), before);
    }

    private static void prices() {
        RankBoard x = new RankBoard();
        x.sheet(0, 1);
        x.sheet(3, 1);
        x.lay(0, 0, 10);
        x.lay(3, 0, 13);
        Check.due("13: by none before", x.prices(0), -9);
        Check.due("13: by sheet 0", x.price(1), 10);
        Check.due("13: by sheet 0 before", x.prices(3), 0);
        Check.due("13: by sheet 3", x.price(1), 13);
        Check.due("13: missing", x.prices(1), -3);
        Check.due("13: NOTHING", x.finding(), 1);
        Check.due("13: BAD", x.prices(4), -1);
        Check.due("13: BAD", x.prices(-1), -1);
        Check.due("13: BAD", x.prices(-8), -1);
        Check.due("13: refused changes nothing", x.price(1), 13);
        x.tear(3);
        Check.due("13: counts as none", x.price(1), 4);
        Check.due("13: missing now", x.prices(3), -3);
        x.sheet(3, 1);
        Check.due("13: there again", x.price(1), 0);
        x.tear(3);
        Check.due("13: told by its number", x.prices(-9), 3);
        Check.due("13: by none", x.prices(-9), -9);
        x.sheet(3, 1);
        Check.due("13: by none", x.price(3), 36);
    }

    private static void price() {
        RankBoard x = new RankBoard();
        Check.due("14: by none", x.price(0), 0);
        Check.due("14: by none", x.price(15), 900);
        Check.due("14: BAD", x.price(16), -1);
        Check.due("14: BAD", x.price(-1), -1);
        Check.due("14: BAD", x.price(LOW), -1);
        Check.due("14: BAD", x.price(HIGH), -1);
        x.sheet(1, 3);
        x.lay(1, 0, 1);
        x.lay(1, 1, 128);
        x.lay(1, 2, 127);
        x.prices(1);
        Check.due("14: byte 0", x.price(0), 1);
        Check.due("14: below 0 counts as 0", x.price(1), 0);
        Check.due("14: the last", x.price(2), 127);
        Check.due("14: greater ones", x.price(3), 127);
        Check.due("14: greater ones", x.price(15), 127);
        x.lay(1, 2, -1);
        Check.due("14: the last below 0", x.price(9), 0);
        x.sheet(1, 0);
        Check.due("14: without bytes", x.price(2), 0);
        x.sheet(1, 16);
        x.lay(1, 15, 3);
        Check.due("14: byte 15", x.price(15), 3);
        Check.due("14: byte 14", x.price(14), 0);
    }
}
