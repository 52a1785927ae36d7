/** Promises 1 to 8: each edge and each refusal that they name, just inside and just outside. */
public final class EdgesWrestlersTest {
    public static void main(String[] args) {
        newObjectHasNoWrestlers();
        newObjectHasNoSheets();
        newObjectHasNoMeet();
        newObjectHasNoLines();
        newObjectTakesTheFirstOfAll();
        wrestlerBad();
        wrestlerFull();
        wrestlerState();
        leaveBad();
        leaveState();
        leaveNothing();
        leaveFromEachRung();
        toldFirstAndLast();
        toldBad();
        toldNothing();
        toldOfTheMeet();
        isOfEachKind();
        isRefused();
        onFirstAndLast();
        onNone();
        markOfEachKind();
        markRefused();
        markStays();
        meanCut();
        meanNought();
        meanBad();
        Check.end();
    }

    private static void newObjectHasNoWrestlers() {
        Run.of("1: no WRESTLERS").all("BAD", "leave 0", "told 0 0", "is 0 0", "mark 0 1", "absent 0 true", "barred 0 1",
            "why 0", "passed 0 1", "rungBeside 0").then("on 0 = NONE", "on -1 = NONE", "count 0 = 0", "count 1 = 0");
        Run.of("1: no STABLE has one").each(8, "mean # = NOUGHT");
    }

    private static void newObjectHasNoSheets() {
        Run.of("1: no SHEETS").each(4, "lay # 0 0 = NOTHING", "tear # = NOTHING", "copy # 0 # 0 0 = NOTHING",
            "prices # = NOTHING").then("prices NONE = NONE", "price 0 = 0", "price 15 = 900");
    }

    private static void newObjectHasNoMeet() {
        Run.of("1: no MEET").all("STATE", "draw", "anew", "leaders", "playOff", "wins true", "wins false")
            .all("BAD", "result 0 true", "bout 0 0", "beside 0")
            .all("NONE", "meets false", "meets true", "champion")
            .all("0", "cost", "sat", "count 2", "count 3", "count 4", "count 5", "count 7", "finding");
    }

    private static void newObjectHasNoLines() {
        Run.of("1: no LINES", "count 6 = 0", "line 0 0 0 = 0", "count 6 = 1");
    }

    private static void newObjectTakesTheFirstOfAll() {
        Run.of("1: the first meet has nobody", "meet 1 = 0", "leaders = 0", "draw = 0", "playOff = STATE", "anew = 0");
        Run.of("1: the first wrestler", "wrestler 0 0 NONE = 0", "on 0 = 0", "why 0 = NONE", "rungBeside 0 = NONE",
            "passed 0 0 = 0");
        Run.of("1: the first sheet", "sheet 3 0 = 0", "tear 3 = 1");
    }

    private static void wrestlerBad() {
        Run.of("2: BAD ahead of all else").each(15, "wrestler 0 0 NONE").then("wrestler 2 7 7 = 15")
            .all("BAD", "wrestler 3 0 NONE", "wrestler 0 8 NONE", "wrestler 0 0 8", "wrestler 0 0 -1", "wrestler -1 0 0")
            .then("meet 1 = 16")
            .all("BAD", "wrestler 3 0 NONE", "wrestler 0 8 NONE", "wrestler 0 0 8").then("count 0 = 16");
    }

    private static void wrestlerFull() {
        Run.mates("2: FULL, in a MEET and out of it", 15)
            .then("wrestler 0 0 NONE = 15", "wrestler 0 0 NONE = FULL", "meet 1 = 16", "wrestler 0 0 NONE = FULL",
                "draw", "anew", "wrestler 0 0 NONE = FULL");
    }

    private static void wrestlerState() {
        Run.mates("2: STATE while there is a MEET", 15)
            .then("meet 1 = 15", "wrestler 0 0 NONE = STATE", "draw = 0", "wrestler 0 0 NONE = STATE", "count 0 = 15",
                "anew = 0", "wrestler 0 0 NONE = 15");
    }

    private static void leaveBad() {
        Run.mates("3: BAD", 2).all("BAD", "leave -1", "leave 2", "leave NONE", "leave 16", "leave MIN", "leave MAX")
            .then("count 1 = 2", "leave 1 = 1", "leave 2 = BAD", "meet 1", "leave 2 = BAD", "leave -1 = BAD");
    }

    private static void leaveState() {
        Run.mates("3: STATE while there is a MEET", 2)
            .then("meet 1", "leave 0 = STATE", "draw", "leave 0 = STATE", "playOff = 2", "leave 0 = STATE", "wins true",
                "anew", "leave 0 = 0");
        Run.mates("3: STATE ahead of NOTHING", 2).then("leave 0 = 0", "meet 1", "leave 0 = STATE");
    }

    private static void leaveNothing() {
        Run.mates("3: for good", 2).then("leave 0 = 0", "leave 0 = NOTHING", "leave 0 = NOTHING", "count 0 = 2",
            "count 1 = 1", "leave 1 = 0", "leave 1 = NOTHING", "count 1 = 0");
    }

    private static void leaveFromEachRung() {
        Run.mates("3: from the lowest RUNG", 16).then("leave 15 = 15", "on 14 = 14", "on 15 = NONE", "leave 14 = 14");
        Run.mates("3: from the top", 16).then("leave 0 = 0", "on 0 = 1", "on 14 = 15", "on 15 = NONE", "leave 15 = 14");
        Run.mates("3: all of them", 16).each(16, "leave # = 0").then("count 1 = 0", "on 0 = NONE");
    }

    private static void toldFirstAndLast() {
        Run.of("4: 0 to 6", "wrestler 2 7 0").then("told 0 0 = 2", "told 0 1 = 7", "told 0 2 = 0", "told 0 3 = 0",
            "told 0 4 = 0", "told 0 5 = 0", "told 0 6 = 0");
        Run.of("4: of the last of sixteen").each(15, "wrestler 0 0 NONE").then("wrestler 1 3 NONE")
            .then("told 15 0 = 1", "told 15 1 = 3", "told 15 2 = NONE", "told 15 3 = 15", "told 15 6 = 0");
    }

    private static void toldBad() {
        Run.mates("4: BAD", 2).all("BAD", "told 0 -1", "told 0 7", "told 0 MIN", "told 0 MAX", "told -1 0", "told 2 0",
            "told NONE 0", "told MIN 0", "told MAX 0").then("told 1 6 = 0");
    }

    private static void toldNothing() {
        Run.mates("4: NOTHING", 2).then("leave 1").each(7, "told 1 # = NOTHING")
            .all("BAD", "told 1 -1", "told 1 7", "told 2 0").then("told 0 3 = 0");
    }

    private static void toldOfTheMeet() {
        Run.apart("4: WINS and LOSSES: 0 before, of the MEET, of the latest one, 0 again", 2)
            .then("told 0 4 = 0", "told 1 5 = 0", "meet 1", "told 0 4 = 0", "draw", "told 0 4 = 0", "told 1 5 = 0",
                "result 0 true", "told 0 4 = 1", "told 0 5 = 0", "told 1 4 = 0", "told 1 5 = 1", "anew", "told 0 4 = 1",
                "told 1 5 = 1", "meet 1", "told 0 4 = 0", "told 1 5 = 0");
        Run.of("4: fifteen LOSSES", "wrestler 0 0 NONE", "absent 0 true", "meet 15").each(15, "told 0 5 = #", "draw = 0")
            .then("told 0 5 = 15", "told 0 4 = 0", "anew", "told 0 5 = 15", "meet 1", "told 0 5 = 0");
        Run.of("4: titles one after another", "wrestler 0 0 NONE")
            .each(5, "told 0 6 = #", "meet 1", "draw", "playOff = 1", "anew").then("told 0 6 = 5");
    }

    private static void isOfEachKind() {
        Run.of("5: each a WRESTLER, too", "wrestler 0 0 NONE", "wrestler 1 0 NONE", "wrestler 2 0 NONE")
            .all("1", "is 0 0", "is 1 0", "is 2 0", "is 1 1", "is 2 2")
            .all("0", "is 0 1", "is 0 2", "is 1 2", "is 2 1");
    }

    private static void isRefused() {
        Run.mates("5: BAD", 2).all("BAD", "is 0 -1", "is 0 3", "is 0 NONE", "is 0 MIN", "is 0 MAX", "is -1 0", "is 2 0",
            "is MIN 0", "is MAX 0");
        Run.mates("5: NOTHING", 2).then("leave 0", "is 0 0 = NOTHING", "is 0 1 = NOTHING", "is 0 2 = NOTHING",
            "is 0 3 = BAD", "is 0 -1 = BAD", "is 1 0 = 1");
    }

    private static void onFirstAndLast() {
        Run.mates("6: the top and the lowest RUNG", 16).each(16, "on # = #").then("on -1 = NONE", "on 16 = NONE");
        Run.mates("6: of one", 1).then("on 0 = 0", "on 1 = NONE", "on -1 = NONE");
    }

    private static void onNone() {
        Run.mates("6: NONE is no finding", 2).then("on 2 = NONE", "on MIN = NONE", "on MAX = NONE", "on NONE = NONE",
            "finding = 0", "leave 0", "on 1 = NONE", "on 0 = 1", "leave 1", "on 0 = NONE", "finding = 0");
    }

    private static void markOfEachKind() {
        Run.of("7: 0 at first", "wrestler 1 0 NONE", "wrestler 2 0 NONE", "mark 0 1 = 0", "mark 1 2 = 0");
        Run.of("7: a HELD one each time, a YOUNG one all RUNGS", "wrestler 1 0 NONE", "wrestler 2 0 NONE",
            "line -1 -1 -2", "line 0 0 15", "absent 0 true")
            .each(3, "meet 1", "draw", "anew", "told 0 3 = 1", "told 1 3 = 0")
            .then("mark 0 1 = 3", "mark 1 2 = 45");
        Run.of("7: by 1 is not kept, and down is not more", "wrestler 1 0 NONE", "wrestler 2 0 NONE", "line -1 -1 -1",
            "absent 0 true", "absent 1 true", "meet 1", "draw", "anew", "mark 0 1 = 0", "mark 1 2 = 0");
    }

    private static void markRefused() {
        Run.of("7: UNLIKE", "wrestler 0 0 NONE", "wrestler 1 0 NONE", "wrestler 2 0 NONE")
            .all("UNLIKE", "mark 0 1", "mark 0 2", "mark 1 2", "mark 2 1").all("0", "mark 1 1", "mark 2 2");
        Run.of("7: BAD: also KIND 0", "wrestler 0 0 NONE", "wrestler 1 0 NONE")
            .all("BAD", "mark 0 0", "mark 1 0", "mark 1 -1", "mark 1 3", "mark 1 MIN", "mark 1 MAX", "mark -1 1",
                "mark 2 1", "mark MIN 1", "mark MAX 2");
        Run.of("7: NOTHING ahead of UNLIKE, behind BAD", "wrestler 1 0 NONE", "leave 0", "mark 0 1 = NOTHING",
            "mark 0 2 = NOTHING", "mark 0 0 = BAD", "mark 0 3 = BAD");
    }

    private static void markStays() {
        Run.of("7: a MEET, or a board beside, leaves it", "wrestler 1 0 NONE", "wrestler 2 1 NONE", "line -1 -1 -15",
            "line 1 1 1", "meet 1", "draw", "result 0 false", "anew = 2", "mark 0 1 = 1", "mark 1 2 = 1", "beside 0 = 2",
            "mark 0 1 = 1", "mark 1 2 = 1", "meet 1", "mark 0 1 = 1", "mark 1 2 = 1");
    }

    private static void meanCut() {
        Run.apart("8: 1 of one, 0 of two that have 1", 2)
            .then("wrestler 0 0 NONE", "meet 1", "mean 0 = 0", "draw = 1", "result 0 true", "mean 0 = 0", "mean 1 = 0",
                "anew", "leave 2", "mean 0 = 1", "mean 1 = 0");
        Run.of("8: of a new one 0", "wrestler 0 7 NONE", "mean 7 = 0");
    }

    private static void meanNought() {
        Run.of("8: NOUGHT", "wrestler 0 7 NONE", "mean 0 = NOUGHT", "mean 6 = NOUGHT", "mean 7 = 0", "leave 0",
            "mean 7 = NOUGHT");
    }

    private static void meanBad() {
        Run.of("8: BAD", "wrestler 0 0 NONE", "wrestler 0 7 NONE")
            .all("BAD", "mean -1", "mean 8", "mean NONE", "mean MIN", "mean MAX").all("0", "mean 0", "mean 7");
    }
}
