/** The edges that the document's terms name, each sentence just inside and just outside. */
public final class EdgesTermsTest {
    public static void main(String[] args) {
        kinds();
        stables();
        kins();
        sixteenEver();
        leftOnesCountAmongSixteen();
        aRungForEach();
        sheetNumbers();
        sheetSizes();
        pricesByNone();
        pricesBySheet();
        pricesInADay();
        days();
        twelveLines();
        upBy();
        scoreFromLowToHigh();
        theFirstThatFits();
        steps();
        likeAims();
        oneLeader();
        sixteenLeaders();
        findings();
        orderOfRefusals();
        Check.end();
    }

    private static void kinds() {
        Run.of("a KIND is 0, 1 or 2", "wrestler 0 0 NONE = 0", "wrestler 1 0 NONE = 1", "wrestler 2 0 NONE = 2")
            .all("BAD", "wrestler -1 0 NONE", "wrestler 3 0 NONE", "wrestler MIN 0 NONE", "wrestler MAX 0 NONE")
            .then("count 0 = 3");
    }

    private static void stables() {
        Run.of("a STABLE is 0 .. 7", "wrestler 0 0 NONE = 0", "wrestler 0 7 NONE = 1")
            .all("BAD", "wrestler 0 -1 NONE", "wrestler 0 8 NONE", "wrestler 0 NONE NONE", "wrestler 0 MIN 0",
                "wrestler 0 MAX 0")
            .then("told 0 1 = 0", "told 1 1 = 7", "count 0 = 2");
    }

    private static void kins() {
        Run.of("a KIN is 0 .. 7 or NONE", "wrestler 0 0 0 = 0", "wrestler 0 0 7 = 1", "wrestler 0 0 NONE = 2")
            .all("BAD", "wrestler 0 0 -1", "wrestler 0 0 8", "wrestler 0 0 -8", "wrestler 0 0 -10",
                "wrestler 0 0 MIN", "wrestler 0 0 MAX")
            .then("told 0 2 = 0", "told 1 2 = 7", "told 2 2 = NONE", "count 0 = 3");
    }

    private static void sixteenEver() {
        Run.of("16 at most").each(16, "wrestler 0 0 NONE = #")
            .then("wrestler 0 0 NONE = FULL", "count 0 = 16", "count 1 = 16", "on 15 = 15", "on 16 = NONE");
    }

    private static void leftOnesCountAmongSixteen() {
        Run.of("16 at most ever").each(15, "wrestler 0 0 NONE = #", "leave # = 0")
            .then("wrestler 0 0 NONE = 15", "on 0 = 15", "wrestler 0 0 NONE = FULL", "leave 15 = 0",
                "wrestler 0 0 NONE = FULL", "count 0 = 16", "count 1 = 0", "on 0 = NONE", "meet 1 = 0");
    }

    private static void aRungForEach() {
        Run.mates("a RUNG for each that did not LEAVE", 3)
            .then("on 2 = 2", "on 3 = NONE", "leave 2 = 2", "on 1 = 1", "on 2 = NONE");
        Run.mates("the lower ones come up, a new one comes to the last", 3)
            .then("leave 0 = 0", "on 0 = 1", "on 1 = 2", "on 2 = NONE", "wrestler 0 0 NONE = 3", "on 2 = 3",
                "told 3 3 = 2");
        Run.mates("in between", 3).then("leave 1 = 1", "told 0 3 = 0", "told 2 3 = 1", "told 1 3 = NOTHING");
    }

    private static void sheetNumbers() {
        Run.of("SHEETS are 0 .. 3", "sheet 0 1 = 1", "sheet 3 1 = 1", "prices 3 = NONE", "prices 0 = 3")
            .all("BAD", "sheet -1 1", "sheet 4 1", "lay -1 0 0", "lay 4 0 0", "tear -1", "tear 4",
                "copy -1 0 0 0 1", "copy 4 0 0 0 1", "copy 0 0 -1 0 1", "copy 0 0 4 0 1", "prices -1", "prices 4")
            .then("prices NONE = 0");
    }

    private static void sheetSizes() {
        Run.of("0 to 16 bytes", "lay 0 0 0 = NOTHING", "sheet 0 0 = 0", "lay 0 0 0 = BEYOND", "sheet 0 1 = 1",
            "lay 0 0 0 = 1000", "lay 0 1 0 = BEYOND", "sheet 0 16 = 16", "lay 0 15 9 = 1000", "lay 0 16 0 = BEYOND",
            "sheet 0 17 = BAD", "lay 0 15 0 = 1009", "sheet 0 -1 = SIZE", "lay 0 15 0 = 1000");
        Run.of("missing at first").each(4, "lay # 0 0 = NOTHING");
    }

    private static void pricesByNone() {
        Run run = Run.of("by none n times n times 4", "price 0 = 0", "price 1 = 4", "price 14 = 784", "price 15 = 900");
        run.then("sheet 0 1", "lay 0 0 7", "price 1 = 4");
    }

    private static void pricesBySheet() {
        Run.of("0 without bytes", "sheet 1 0", "prices 1", "price 0 = 0", "price 1 = 0", "price 15 = 0");
        Run.of("one byte for all", "sheet 1 1", "lay 1 0 5", "prices 1", "price 0 = 5", "price 1 = 5", "price 15 = 5");
        Run.of("the last byte for greater ones", "sheet 1 3", "prices 1", "lay 1 0 1", "lay 1 1 2", "lay 1 2 3",
            "price 0 = 1", "price 1 = 2", "price 2 = 3", "price 3 = 3", "price 15 = 3");
        Run.of("of 15 bytes", "sheet 1 15", "prices 1", "lay 1 14 6", "price 13 = 0", "price 14 = 6", "price 15 = 6");
        Run.of("of 16 bytes", "sheet 1 16", "prices 1", "lay 1 14 6", "lay 1 15 8", "price 14 = 6", "price 15 = 8");
        Run.of("a byte below 0 counts as 0", "sheet 1 4", "prices 1", "lay 1 0 127", "lay 1 1 128", "lay 1 2 -1",
            "lay 1 3 0", "price 0 = 127", "price 1 = 0", "price 2 = 0", "price 3 = 0", "lay 1 3 -128", "price 3 = 0",
            "price 9 = 0", "lay 1 3 1", "price 9 = 1");
    }

    /** On the second day 0 and 3 have a win: the like are 0 and 3, 1 and 2; 0 and 1, 2 and 3 have met. */
    private static void pricesInADay() {
        secondDay("by none", 3, 4, "price 0");
        secondDay("by two bytes", 2, 14, "sheet 2 2", "lay 2 0 100", "lay 2 1 5", "prices 2");
        secondDay("the like are as dear", 2, 204, "sheet 2 1", "lay 2 0 100", "prices 2");
        secondDay("the unlike are dearer by 1", 3, 204, "sheet 2 2", "lay 2 0 100", "lay 2 1 101", "prices 2");
        secondDay("the unlike are cheaper by 1", 2, 202, "sheet 2 2", "lay 2 0 100", "lay 2 1 99", "prices 2");
        secondDay("below 0 is 0", 2, 4, "sheet 2 2", "lay 2 0 1", "lay 2 1 -1", "prices 2");
        secondDay("both below 0", 2, 4, "sheet 2 2", "lay 2 0 -1", "lay 2 1 -128", "prices 2");
        secondDay("without bytes", 2, 4, "sheet 2 0", "prices 2");
        secondDay("missing later", 3, 4, "sheet 2 0", "prices 2", "tear 2");
    }

    private static void secondDay(String title, int mateOfTop, int cost, String... prices) {
        Run.apart("THE FITTING, prices " + title, 4)
            .then("meet 2", "draw", "result 0 true", "result 1 false")
            .then(prices)
            .then("draw = 2", "bout 2 1 = 0", "bout 2 2 = " + mateOfTop, "cost = " + cost);
    }

    private static void days() {
        Run.of("D is 1 .. 15", "meet 0 = BAD", "meet 16 = BAD", "count 3 = 0", "meet 1 = 0", "count 3 = 1", "draw = 0",
            "draw = STATE", "anew = 0", "meet 15 = 0", "count 3 = 15").each(15, "count 2 = #", "draw = 0")
            .then("draw = STATE", "count 2 = 15", "anew = 0");
    }

    private static void twelveLines() {
        Run.of("12 LINES at most").each(12, "line 0 0 0 = #")
            .then("line 0 0 0 = FULL", "count 6 = 12", "line 1 0 0 = BAD", "line 0 0 16 = BAD");
    }

    private static void upBy() {
        Run.of("up by -15 .. 15", "line 0 0 -15 = 0", "line 0 0 15 = 1", "line 0 0 0 = 2")
            .all("BAD", "line 0 0 -16", "line 0 0 16", "line 0 0 MIN", "line 0 0 MAX").then("count 6 = 3");
    }

    /** Scores 0, -1, -2, -3 by days of absence. */
    private static Run fourScores(String title, String... lines) {
        return Run.mates(title, 4).then(lines)
            .then("meet 3", "absent 1 true", "absent 2 true", "absent 3 true", "draw", "absent 1 false", "draw",
                "absent 2 false", "draw", "anew");
    }

    private static void scoreFromLowToHigh() {
        fourScores("from low to high, both of them", "line -2 -1 0")
            .then("why 0 = NONE", "why 1 = 0", "why 2 = 0", "why 3 = NONE");
        fourScores("low is high", "line -2 -2 0").then("why 1 = NONE", "why 2 = 0", "why 3 = NONE");
        fourScores("from the lowest number", "line MIN -2 0")
            .then("why 0 = NONE", "why 1 = NONE", "why 2 = 0", "why 3 = 0");
        fourScores("to the highest number", "line -2 MAX 0")
            .then("why 0 = 0", "why 1 = 0", "why 2 = 0", "why 3 = NONE");
        fourScores("beyond every score", "line MIN -16 9", "line 16 MAX 9")
            .then("why 0 = NONE", "why 3 = NONE", "on 0 = 0", "on 3 = 3");
        Run.apart("a win and a loss", 2).then("line -1 -1 0", "line 1 1 0", "meet 1", "draw", "result 0 true", "anew")
            .then("why 0 = 1", "why 1 = 0");
    }

    private static void theFirstThatFits() {
        fourScores("the first one that fits", "line -1 0 0", "line -2 -1 1", "line MIN MAX -1", "line -3 -3 5")
            .then("why 0 = 0", "why 1 = 0", "why 2 = 1", "why 3 = 2");
    }

    /** One of four, which alone is absent, by a line for it alone. */
    private static void step(int kind, int from, int up, int to, int mark) {
        Run run = Run.of("KIND " + kind + " from RUNG " + from + " up by " + up, "line -1 -1 " + up);
        run.each(from, "wrestler 0 0 NONE").then("wrestler " + kind + " 0 NONE").each(3 - from, "wrestler 0 0 NONE");
        run.then("absent " + from + " true", "meet 1", "draw = 0");
        int changed = from == to ? 0 : Math.abs(from - to) + 1;
        run.then("anew = " + changed, "told " + from + " 3 = " + to, "on " + to + " = " + from);
        if (kind != 0) {
            run.then("mark " + from + " " + kind + " = " + mark);
        }
    }

    private static void steps() {
        int[][] plain = {{3, 0, 3}, {3, 1, 2}, {3, 2, 1}, {3, 3, 0}, {3, 4, 0}, {3, 15, 0}, {0, 1, 0}, {0, 15, 0},
            {0, 0, 0}, {0, -1, 1}, {0, -2, 2}, {0, -3, 3}, {0, -4, 3}, {0, -15, 3}, {3, -1, 3}, {3, -15, 3}};
        for (int[] s : plain) {
            step(0, s[0], s[1], s[2], 0);
        }
        int[][] held = {{0, 0, 0, 0}, {0, -1, 1, 0}, {0, -2, 1, 1}, {0, -15, 1, 1}, {2, -2, 3, 1}, {3, -1, 3, 0},
            {3, -2, 3, 1}, {3, -15, 3, 1}, {3, 1, 2, 0}, {3, 2, 1, 0}, {3, 15, 0, 0}, {0, 15, 0, 0}};
        for (int[] s : held) {
            step(1, s[0], s[1], s[2], s[3]);
        }
        int[][] young = {{3, 0, 3, 0}, {3, 1, 1, 1}, {3, 2, 0, 2}, {3, 15, 0, 15}, {2, 1, 0, 1}, {1, 1, 0, 1},
            {0, 1, 0, 1}, {0, 15, 0, 15}, {0, 0, 0, 0}, {0, -1, 1, 0}, {0, -2, 2, 0}, {0, -15, 3, 0}, {3, -1, 3, 0}};
        for (int[] s : young) {
            step(2, s[0], s[1], s[2], s[3]);
        }
    }

    private static void likeAims() {
        Run.mates("of like AIMS the one from the upper RUNG first", 3)
            .then("line -2 -2 2", "line -1 -1 1", "meet 2", "absent 1 true", "absent 2 true", "draw", "absent 1 false",
                "draw", "anew = 3", "on 0 = 1", "on 1 = 2", "on 2 = 0", "passed 2 1 = 0", "passed 2 0 = 1");
        Run.mates("all by as many", 3).then("line 0 0 15", "meet 1", "draw", "anew = 0");
        Run.mates("one down, the next one up: they change", 2)
            .then("line -2 -2 -1", "line -1 -1 1", "meet 2", "absent 0 true", "absent 1 true", "draw", "absent 1 false",
                "draw", "anew = 2", "on 0 = 1");
    }

    private static void oneLeader() {
        Run.mates("one LEADER", 1).then("meet 1", "draw", "leaders = 1", "playOff = 1", "champion = 0", "meets false = NONE",
            "wins true = STATE", "told 0 6 = 1");
    }

    private static void sixteenLeaders() {
        Run run = Run.mates("sixteen LEADERS", 16).then("meet 1", "draw = 0", "leaders = 65535", "playOff = 16");
        for (int left = 15; left >= 1; left--) {
            run.then("champion = NONE", "wins true = " + left);
        }
        run.then("champion = 0", "meets false = NONE", "meets true = NONE", "wins true = STATE", "told 0 6 = 1",
            "told 15 6 = 0");
    }

    private static void findings() {
        Run.of("FINDINGS 1 to 5", "finding = 0", "wrestler 0 0 NONE", "wrestler 0 0 NONE", "leave 1", "sheet 0 1",
            "told 1 0 = NOTHING", "tear 1 = NOTHING", "lay 0 1 0 = BEYOND", "mark 0 1 = UNLIKE", "mean 1 = NOUGHT",
            "sheet 0 -1 = SIZE", "findings 1 = 2", "findings 2 = 1", "findings 3 = 1", "findings 4 = 1", "findings 5 = 1",
            "finding = 5");
    }

    /** Where two fit, the first of BAD, FULL, STATE, FINDING; where only the later one fits, that one. */
    private static void orderOfRefusals() {
        Run.of("BAD ahead of FULL").each(12, "line 0 0 0").then("line 1 0 0 = BAD", "line 0 0 0 = FULL")
            .each(16, "wrestler 0 0 NONE").then("wrestler 0 0 8 = BAD", "wrestler 0 0 7 = FULL");
        Run.mates("FULL ahead of STATE", 16).then("meet 1", "wrestler 0 8 0 = BAD", "wrestler 0 7 0 = FULL");
        Run.mates("STATE without FULL", 15).then("meet 1", "wrestler 0 8 0 = BAD", "wrestler 0 7 0 = STATE");
        Run.mates("STATE ahead of FINDING", 2).then("leave 1", "meet 1", "leave 2 = BAD", "leave 1 = STATE", "leave 0 = STATE",
            "draw", "anew", "leave 2 = BAD", "leave 1 = NOTHING", "leave 0 = 0");
        Run.mates("BAD ahead of FINDING", 2).then("leave 1", "told 1 7 = BAD", "told 1 6 = NOTHING", "mark 1 0 = BAD",
            "mark 1 1 = NOTHING", "barred 1 1 = BAD", "barred 1 0 = NOTHING", "lay 4 0 0 = BAD", "lay 3 0 0 = NOTHING",
            "sheet 4 -1 = BAD", "sheet 3 -1 = SIZE");
        Run.mates("of two FINDINGS the first that is named", 2).then("mark 0 1 = UNLIKE", "leave 0", "mark 0 1 = NOTHING",
            "sheet 0 1", "lay 0 1 0 = BEYOND", "copy 0 1 0 0 1 = BEYOND", "tear 0", "lay 0 1 0 = NOTHING",
            "copy 0 1 0 0 1 = NOTHING");
    }
}
