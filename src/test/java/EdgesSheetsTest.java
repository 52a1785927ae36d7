/** Promises 9 to 14: each edge and each refusal that they name, just inside and just outside. */
public final class EdgesSheetsTest {
    public static void main(String[] args) {
        sheetOfEachSize();
        sheetAnew();
        sheetRefused();
        layFirstAndLast();
        layCut();
        layRefused();
        tearOnce();
        tearRefused();
        copyOntoItself();
        copyAll();
        copyOfNoBytes();
        copyBeyond();
        copyNothing();
        copyBad();
        pricesTold();
        pricesOfAMissingOne();
        pricesRefused();
        priceFirstAndLast();
        priceBad();
        Check.end();
    }

    private static void sheetOfEachSize() {
        Run.of("9: n bytes").each(17, "sheet 2 # = #");
        Run.of("9: each is 0", "sheet 2 16 = 16").each(16, "lay 2 # 1 = 1000").then("lay 2 16 1 = BEYOND");
        Run.of("9: none", "sheet 2 0 = 0", "lay 2 0 1 = BEYOND", "tear 2 = 1");
    }

    private static void sheetAnew() {
        Run.of("9: a sheet that was there", "sheet 0 2", "lay 0 0 5", "lay 0 1 6", "sheet 0 2 = 2", "lay 0 0 0 = 1000",
            "lay 0 1 0 = 1000");
        Run.of("9: a smaller and again a greater one", "sheet 0 16", "lay 0 15 6", "sheet 0 1 = 1", "lay 0 15 0 = BEYOND",
            "sheet 0 16 = 16", "lay 0 15 0 = 1000");
        Run.of("9: one that was torn", "sheet 0 1", "lay 0 0 5", "tear 0", "sheet 0 1 = 1", "lay 0 0 0 = 1000");
        Run.of("9: the others stay", "sheet 0 1", "lay 0 0 5", "sheet 1 1", "lay 0 0 0 = 1005");
    }

    private static void sheetRefused() {
        Run.of("9: BAD", "sheet 0 16", "lay 0 0 4").all("BAD", "sheet 0 17", "sheet 0 MAX", "sheet 4 0", "sheet -1 0",
            "sheet MIN 0", "sheet MAX 0", "sheet NONE 1").then("lay 0 0 4 = 1004");
        Run.of("9: SIZE", "sheet 0 0 = 0", "sheet 0 -1 = SIZE", "sheet 0 MIN = SIZE", "sheet 1 -1 = SIZE",
            "lay 1 0 0 = NOTHING", "tear 0 = 1");
        Run.of("9: BAD ahead of SIZE").all("BAD", "sheet 4 -1", "sheet -1 -1", "sheet 4 MIN");
    }

    private static void layFirstAndLast() {
        Run.of("10: byte 0 and 15 of 16", "sheet 3 16", "lay 3 0 7 = 1000", "lay 3 15 8 = 1000", "lay 3 0 0 = 1007",
            "lay 3 15 0 = 1008", "lay 3 14 0 = 1000", "lay 3 -1 0 = BEYOND", "lay 3 16 0 = BEYOND");
        Run.of("10: of one byte", "sheet 3 1", "lay 3 0 7 = 1000", "lay 3 1 7 = BEYOND", "lay 3 -1 7 = BEYOND");
    }

    /** What is laid, and what the byte tells then. */
    private static void layCut() {
        long[][] cuts = {{127, 127}, {128, -128}, {255, -1}, {256, 0}, {257, 1}, {383, 127}, {384, -128}, {-128, -128},
            {-129, 127}, {-1, -1}, {-256, 0}, {-257, -1}, {Integer.MAX_VALUE, -1}, {Integer.MIN_VALUE, 0},
            {Integer.MIN_VALUE + 128, -128}, {Integer.MAX_VALUE - 128, 127}};
        Run run = Run.of("10: cut to a byte", "sheet 0 1");
        long was = 0;
        for (long[] cut : cuts) {
            run.then("lay 0 0 " + cut[0] + " = " + (1000 + was));
            was = cut[1];
        }
        run.then("lay 0 0 0 = " + (1000 + was));
    }

    private static void layRefused() {
        Run.of("10: BEYOND", "sheet 0 2", "lay 0 0 5", "lay 0 1 6").all("BEYOND", "lay 0 2 9", "lay 0 -1 9", "lay 0 15 9",
            "lay 0 16 9", "lay 0 MIN 9", "lay 0 MAX 9").then("lay 0 0 5 = 1005", "lay 0 1 6 = 1006");
        Run.of("10: NOTHING ahead of BEYOND").all("NOTHING", "lay 0 0 9", "lay 0 -1 9", "lay 0 16 9", "lay 0 MAX 9");
        Run.of("10: BAD ahead of NOTHING").all("BAD", "lay 4 0 9", "lay -1 0 9", "lay 4 -1 9", "lay MIN 0 9", "lay MAX 0 9");
    }

    private static void tearOnce() {
        Run.of("11: once").each(4, "sheet # # = #", "tear # = 1", "tear # = NOTHING").then("sheet 0 1 = 1", "tear 0 = 1");
        Run.of("11: one alone", "sheet 0 1", "sheet 1 1", "lay 1 0 5", "tear 0 = 1", "lay 1 0 0 = 1005");
    }

    private static void tearRefused() {
        Run.of("11: BAD", "sheet 0 0", "sheet 3 0").all("BAD", "tear -1", "tear 4", "tear NONE", "tear MIN", "tear MAX")
            .then("tear 0 = 1", "tear 3 = 1", "tear 1 = NOTHING");
    }

    private static Run oneToFour(String title) {
        return Run.of(title, "sheet 0 4", "lay 0 0 1", "lay 0 1 2", "lay 0 2 3", "lay 0 3 4", "sheet 1 3");
    }

    private static Run bytes(Run run, int s, int... due) {
        for (int i = 0; i < due.length; i++) {
            run.then("lay " + s + " " + i + " 0 = " + (1000 + due[i]));
        }
        return run;
    }

    private static void copyOntoItself() {
        bytes(oneToFour("12: each onto itself").then("copy 0 0 0 0 4 = 1"), 0, 1, 2, 3, 4);
        bytes(oneToFour("12: one on, as if taken ahead").then("copy 0 0 0 1 3 = 1"), 0, 1, 1, 2, 3);
        bytes(oneToFour("12: one back, as if taken ahead").then("copy 0 1 0 0 3 = 1"), 0, 2, 3, 4, 4);
        bytes(oneToFour("12: two on").then("copy 0 0 0 2 2 = 1"), 0, 1, 2, 1, 2);
        bytes(oneToFour("12: the last onto the first").then("copy 0 3 0 0 1 = 1"), 0, 4, 2, 3, 4);
    }

    private static void copyAll() {
        bytes(oneToFour("12: all that the other has").then("copy 0 0 1 0 3 = 1"), 1, 1, 2, 3);
        bytes(oneToFour("12: up to both ends").then("copy 0 2 1 1 2 = 1"), 1, 0, 3, 4);
        bytes(oneToFour("12: the source stays").then("copy 0 1 1 0 3 = 1"), 0, 1, 2, 3, 4);
        Run run = Run.of("12: sixteen", "sheet 2 16", "sheet 3 16", "lay 2 0 -128", "lay 2 15 127", "copy 2 0 3 0 16 = 1",
            "lay 3 0 0 = 872", "lay 3 15 0 = 1127", "lay 3 7 0 = 1000");
        run.then("copy 2 0 3 0 17 = BEYOND", "copy 2 1 3 0 16 = BEYOND", "copy 2 0 3 1 16 = BEYOND");
    }

    private static void copyOfNoBytes() {
        Run run = oneToFour("12: of no bytes").all("1", "copy 0 0 1 0 0", "copy 0 4 1 0 0", "copy 0 0 1 3 0",
            "copy 0 4 1 3 0", "copy 0 2 0 2 0").all("BEYOND", "copy 0 5 1 0 0", "copy 0 0 1 4 0", "copy 0 -1 1 0 0",
            "copy 0 0 1 -1 0");
        bytes(bytes(run, 0, 1, 2, 3, 4), 1, 0, 0, 0);
        Run.of("12: of none there are", "sheet 0 0", "sheet 1 0", "copy 0 0 1 0 0 = 1", "copy 0 0 0 0 0 = 1")
            .all("BEYOND", "copy 0 0 1 0 1", "copy 0 1 1 0 0", "copy 0 0 1 0 -1");
    }

    private static void copyBeyond() {
        Run from = oneToFour("12: BEYOND, from").all("BEYOND", "copy 0 4 1 0 1", "copy 0 2 1 0 3", "copy 0 -1 1 0 1",
            "copy 0 MIN 1 0 1", "copy 0 MAX 1 0 1", "copy 0 MAX 1 0 MAX", "copy 0 MIN 1 0 MIN");
        bytes(from, 1, 0, 0, 0);
        Run to = oneToFour("12: BEYOND, to").all("BEYOND", "copy 0 0 1 3 1", "copy 0 0 1 1 3", "copy 0 0 1 -1 1",
            "copy 0 0 1 MIN 1", "copy 0 0 1 MAX 1", "copy 0 0 1 MAX MAX");
        bytes(to, 1, 0, 0, 0);
        Run of = oneToFour("12: BEYOND, n").all("BEYOND", "copy 0 0 1 0 4", "copy 0 0 1 0 5", "copy 0 0 1 0 -1",
            "copy 0 1 1 1 -1", "copy 0 0 1 0 MIN", "copy 0 0 1 0 MAX", "copy 0 0 0 0 5");
        bytes(of, 1, 0, 0, 0);
    }

    private static void copyNothing() {
        oneToFour("12: NOTHING, either").all("NOTHING", "copy 2 0 1 0 1", "copy 0 0 2 0 1", "copy 2 0 2 0 0",
            "copy 2 0 3 0 1", "copy 2 0 1 0 0");
        oneToFour("12: NOTHING ahead of BEYOND").all("NOTHING", "copy 2 -1 1 0 1", "copy 0 9 2 0 1", "copy 0 0 2 0 -1",
            "copy 2 0 1 0 MAX");
    }

    private static void copyBad() {
        oneToFour("12: BAD").all("BAD", "copy -1 0 0 0 1", "copy 4 0 0 0 1", "copy 0 0 -1 0 1", "copy 0 0 4 0 1",
            "copy MIN 0 0 0 1", "copy 0 0 MAX 0 1", "copy 0 0 4 0 0");
        oneToFour("12: BAD ahead of NOTHING and BEYOND").all("BAD", "copy 2 0 4 0 1", "copy 4 0 2 0 1", "copy 4 -1 0 0 1",
            "copy 0 0 4 0 -1");
    }

    private static void pricesTold() {
        Run.of("13: what told them", "sheet 0 0", "sheet 3 0", "prices NONE = NONE", "prices 0 = NONE", "prices 0 = 0",
            "prices 3 = 0", "prices NONE = 3", "prices NONE = NONE");
        Run.of("13: in a MEET, too", "sheet 0 1", "lay 0 0 9", "meet 1", "prices 0 = NONE", "price 5 = 9");
    }

    private static void pricesOfAMissingOne() {
        Run.of("13: missing later counts as none, by its number", "sheet 1 1", "lay 1 0 9", "prices 1 = NONE", "price 2 = 9",
            "tear 1 = 1", "price 2 = 16", "price 0 = 0", "prices 1 = NOTHING", "sheet 1 1", "price 2 = 0", "lay 1 0 3",
            "price 2 = 3", "tear 1", "prices NONE = 1", "sheet 1 1", "price 2 = 16");
    }

    private static void pricesRefused() {
        Run.of("13: BAD", "sheet 0 1", "lay 0 0 9", "prices 0").all("BAD", "prices -1", "prices 4", "prices -8", "prices -10",
            "prices MIN", "prices MAX").then("price 1 = 9", "prices NONE = 0");
        Run.of("13: NOTHING", "sheet 0 1", "lay 0 0 9", "prices 0").all("NOTHING", "prices 1", "prices 2", "prices 3")
            .then("price 1 = 9", "prices NONE = 0");
    }

    private static void priceFirstAndLast() {
        Run run = Run.of("14: differences 0 .. 15, by none");
        for (int n = 0; n <= 15; n++) {
            run.then("price " + n + " = " + 4 * n * n);
        }
        Run.of("14: by a sheet of sixteen", "sheet 0 16", "prices 0").each(16, "lay 0 # #").each(16, "price # = #");
    }

    private static void priceBad() {
        Run.of("14: BAD", "price 0 = 0", "price 15 = 900").all("BAD", "price -1", "price 16", "price MIN", "price MAX",
            "price NONE").then("sheet 0 0", "prices 0").all("BAD", "price -1", "price 16").then("price 15 = 0");
    }
}
