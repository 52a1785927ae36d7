/** Promises 23 to 28: each edge and each refusal that they name, just inside and just outside. */
public final class EdgesAnewTest {
    public static void main(String[] args) {
        lineLowAndHigh();
        lineUp();
        lineFull();
        lineAtAnyTime();
        anewState();
        anewWithPlayOff();
        anewOfFew();
        anewWithoutLines();
        anewWithTwelveLines();
        anewFromTopAndLowest();
        anewHowManyChanged();
        whyBefore();
        whyNoneFitted();
        whyRefused();
        passedBefore();
        passedTopAndLowest();
        passedRefused();
        besideBad();
        besideState();
        besideAfterRefusedCalls();
        besideFirstAndLast();
        besideTwice();
        besideKinds();
        rungBesideNone();
        rungBesideLatest();
        rungBesideRefused();
        Check.end();
    }

    private static void lineLowAndHigh() {
        Run.of("23: low above high", "line 0 0 1 = 0", "line -1 0 1 = 1", "line MIN MAX 1 = 2", "line MIN MIN 1 = 3",
            "line MAX MAX 1 = 4").all("BAD", "line 1 0 1", "line 0 -1 1", "line MAX MIN 1", "line -15 -16 1", "line MAX 0 1",
            "line 0 MIN 1").then("count 6 = 5");
    }

    private static void lineUp() {
        Run.of("23: up", "line 0 0 15 = 0", "line 0 0 -15 = 1", "line 0 0 0 = 2").all("BAD", "line 0 0 16", "line 0 0 -16",
            "line 0 0 MAX", "line 0 0 MIN", "line 1 0 16").then("count 6 = 3");
    }

    private static void lineFull() {
        Run.of("23: FULL").each(11, "line 0 0 0").then("line 0 0 0 = 11").all("FULL", "line 0 0 0", "line MIN MAX 15")
            .all("BAD", "line 1 0 0", "line 0 0 16", "line 0 0 -16").then("count 6 = 12");
    }

    private static void lineAtAnyTime() {
        Run.mates("23: in a MEET and in a PLAY-OFF", 2).then("line 0 0 0 = 0", "meet 1", "line 0 0 0 = 1", "draw",
            "line 0 0 0 = 2", "playOff = 2", "line 0 0 0 = 3", "wins true", "anew", "line 0 0 0 = 4");
    }

    private static void anewState() {
        Run.apart("24: STATE: no MEET, not all DAYS drawn, results lack", 2).then("anew = STATE", "meet 2", "anew = STATE",
            "draw = 1", "anew = STATE", "result 0 true", "anew = STATE", "draw = 0", "count 7 = 0", "anew = 0", "count 7 = 1",
            "anew = STATE", "count 7 = 1");
        Run.apart("24: one result lacks", 4).then("meet 1", "draw = 2", "result 1 true", "anew = STATE", "count 3 = 1",
            "result 0 true", "anew = 0", "count 3 = 0");
    }

    private static void anewWithPlayOff() {
        Run.mates("24: STATE: a PLAY-OFF goes on", 3).then("meet 1", "draw", "playOff = 3", "anew = STATE", "wins true = 2",
            "anew = STATE", "meets false = 2", "wins true = 1", "anew = 0", "anew = STATE");
        Run.mates("24: without a PLAY-OFF", 2).then("meet 1", "draw", "anew = 0");
        Run.mates("24: with one that is over at once", 1).then("meet 1", "draw", "playOff = 1", "anew = 0");
    }

    private static void anewOfFew() {
        Run.of("24: of none", "line MIN MAX 1", "meet 1", "draw", "anew = 0", "count 7 = 1");
        Run.mates("24: of one", 1).then("line MIN MAX 15", "meet 1", "draw", "anew = 0", "on 0 = 0", "why 0 = 0");
        Run.mates("24: of one, down", 1).then("line MIN MAX -15", "meet 1", "draw", "anew = 0", "on 0 = 0", "why 0 = 0");
    }

    private static void anewWithoutLines() {
        Run.apart("24: no LINES", 2).then("meet 1", "draw", "result 0 false", "anew = 0", "on 0 = 0", "on 1 = 1", "why 0 = NONE",
            "why 1 = NONE", "passed 1 0 = 0", "beside 0 = 0", "rungBeside 1 = 1");
    }

    private static void anewWithTwelveLines() {
        Run.apart("24: the last of twelve LINES", 2).each(11, "line 5 9 3 = #")
            .then("line 1 1 1 = 11", "meet 1", "draw", "result 0 false", "anew = 2", "why 1 = 11", "why 0 = NONE", "on 0 = 1");
        Run.apart("24: the first of twelve LINES", 2).then("line 1 1 1 = 0").each(11, "line MIN MAX -9")
            .then("meet 1", "draw", "result 0 false", "anew = 2", "why 1 = 0", "why 0 = 1", "on 0 = 1");
    }

    private static void anewFromTopAndLowest() {
        Run.mates("24: from the top to the lowest RUNG of sixteen", 16).then("line -1 -1 -15", "absent 0 true", "meet 1", "draw",
            "anew = 16", "on 15 = 0", "on 0 = 1", "on 14 = 15");
        Run.mates("24: all but one RUNG", 16).then("line -1 -1 -14", "absent 0 true", "meet 1", "draw", "anew = 15", "on 14 = 0",
            "on 15 = 15");
        Run.mates("24: from the lowest to the top", 16).then("line -1 -1 15", "absent 15 true", "meet 1", "draw", "anew = 16",
            "on 0 = 15", "on 1 = 0", "on 15 = 14");
        Run.mates("24: to all but the top", 16).then("line -1 -1 14", "absent 15 true", "meet 1", "draw", "anew = 15",
            "on 0 = 0", "on 1 = 15");
        Run.mates("24: up on the top, down on the lowest", 2).then("line -2 -2 15", "line -1 -1 -15", "meet 2", "absent 0 true",
            "absent 1 true", "draw", "absent 1 false", "draw", "anew = 0", "why 0 = 0", "why 1 = 1");
    }

    private static void anewHowManyChanged() {
        Run.mates("24: those in between change, too", 4).then("line -1 -1 2", "absent 2 true", "meet 1", "draw", "anew = 3",
            "on 0 = 2", "on 1 = 0", "on 2 = 1", "on 3 = 3");
        Run.mates("24: none of them, though a LINE fits", 4).then("line 0 0 0", "meet 1", "draw", "anew = 0", "why 0 = 0");
    }

    private static void whyBefore() {
        Run.mates("25: NONE before", 1).then("line MIN MAX 1", "why 0 = NONE", "meet 1", "why 0 = NONE", "draw", "why 0 = NONE",
            "anew", "why 0 = 0", "meet 1", "why 0 = 0", "draw", "why 0 = 0");
        Run.mates("25: NONE: it was not there", 1).then("line MIN MAX 1", "meet 1", "draw", "anew", "wrestler 0 0 NONE = 1",
            "why 1 = NONE", "why 0 = 0", "meet 1", "draw", "why 1 = NONE", "anew", "why 1 = 0");
    }

    private static void whyNoneFitted() {
        Run.mates("25: NONE: none fitted, as it was WRITTEN latest", 2).then("line -1 -1 0", "absent 0 true", "meet 1", "draw",
            "anew", "why 0 = 0", "why 1 = NONE", "absent 0 false", "meet 1", "draw", "anew", "why 0 = NONE", "why 1 = NONE");
    }

    private static void whyRefused() {
        Run.mates("25: BAD", 2).all("BAD", "why -1", "why 2", "why NONE", "why MIN", "why MAX").then("why 0 = NONE", "why 1 = NONE");
        Run.mates("25: NOTHING", 2).then("meet 1", "draw", "anew", "leave 1", "why 1 = NOTHING", "why 0 = NONE", "why 2 = BAD");
    }

    private static void passedBefore() {
        Run.mates("26: 0 before", 2).all("0", "passed 0 1", "passed 1 0", "passed 0 0");
        Run.mates("26: one that came later", 2).then("line -1 -1 -1", "absent 0 true", "meet 1", "draw", "anew = 2",
            "wrestler 0 0 NONE = 2").all("0", "passed 2 0", "passed 0 2", "passed 2 1", "passed 1 2", "passed 2 2")
            .then("passed 1 0 = 1", "passed 0 1 = 0");
        Run.mates("26: as it was WRITTEN latest", 2).then("line -1 -1 -1", "absent 0 true", "meet 1", "draw", "anew = 2",
            "passed 1 0 = 1", "meet 1", "passed 1 0 = 1", "draw", "passed 1 0 = 1", "anew = 0", "passed 1 0 = 0");
    }

    private static void passedTopAndLowest() {
        Run run = Run.mates("26: from the lowest RUNG to the top", 16).then("line -1 -1 15", "absent 15 true", "meet 1", "draw",
            "anew = 16");
        run.each(15, "passed 15 # = 1", "passed # 15 = 0", "passed # 0 = 0").then("passed 15 15 = 0");
    }

    private static void passedRefused() {
        Run.mates("26: BAD", 2).all("BAD", "passed -1 0", "passed 0 -1", "passed 2 0", "passed 0 2", "passed MIN 0",
            "passed 0 MAX", "passed 2 2").all("0", "passed 0 1", "passed 1 1");
        Run.mates("26: NOTHING: either", 3).then("leave 1").all("NOTHING", "passed 0 1", "passed 1 0", "passed 1 1")
            .all("BAD", "passed 1 3", "passed 3 1", "passed -1 1").then("passed 0 2 = 0");
    }

    /** The lower ones won bouts 0 and 1 of a meet behind which the board was written. */
    private static Run written(String title) {
        return Run.apart(title, 4).then("line 1 1 1", "line -1 -1 -1", "meet 1", "draw = 2", "result 0 false", "result 1 false",
            "anew = 4", "on 0 = 1", "on 1 = 0", "on 2 = 3", "on 3 = 2");
    }

    private static void besideBad() {
        written("27: BAD").all("BAD", "beside -1", "beside 2", "beside NONE", "beside MIN", "beside MAX")
            .then("rungBeside 0 = NONE", "beside 0 = 2", "beside 1 = 2");
        Run.mates("27: BAD: there was no BOUT", 2).then("meet 1", "draw", "anew", "beside 0 = BAD");
        written("27: BAD ahead of STATE").then("leave 0", "beside 2 = BAD", "beside 1 = STATE", "meet 1", "beside 0 = BAD");
    }

    private static void besideState() {
        Run.apart("27: STATE: not WRITTEN since the latest MEET", 2).then("meet 1", "draw", "beside 0 = STATE", "result 0 true",
            "beside 0 = STATE", "anew", "beside 0 = 0", "meet 1", "draw", "beside 0 = STATE", "result 0 true",
            "beside 0 = STATE", "anew", "beside 0 = 0");
        written("27: STATE: one LEFT").then("beside 0 = 2", "leave 3", "beside 0 = STATE", "meet 1", "draw", "result 0 true",
            "anew", "beside 0");
        written("27: STATE: one came").then("beside 0 = 2", "wrestler 0 7 NONE", "beside 0 = STATE");
        written("27: STATE: one came and LEFT").then("wrestler 0 7 NONE", "leave 4", "beside 0 = STATE");
        Run.apart("27: who LEFT or came ahead of it is no matter", 2).then("wrestler 0 7 NONE", "leave 2", "meet 1", "draw = 1",
            "result 0 true", "anew", "beside 0 = 0");
    }

    private static void besideAfterRefusedCalls() {
        written("27: a refused call is no matter").then("leave 4 = BAD", "wrestler 3 0 0 = BAD", "meet 0 = BAD", "anew = STATE",
            "draw = STATE", "result 0 true = STATE", "playOff = STATE", "beside 0 = 2");
        written("27: absence, prices and LINES since are no matter").then("absent 0 true", "sheet 0 0", "prices 0",
            "line 0 0 9", "beside 0 = 2", "rungBeside 0 = 0");
    }

    private static void besideFirstAndLast() {
        written("27: the first BOUT").then("beside 0 = 2", "rungBeside 0 = 0", "rungBeside 1 = 1", "rungBeside 2 = 3",
            "rungBeside 3 = 2");
        written("27: the last BOUT").then("beside 1 = 2", "rungBeside 0 = 1", "rungBeside 1 = 0", "rungBeside 2 = 2",
            "rungBeside 3 = 3");
        Run.apart("27: of eight BOUTS", 16).then("line -1 -1 -15", "meet 1", "draw = 8").each(8, "result # true")
            .then("anew = 14", "on 0 = 0", "on 15 = 15", "on 7 = 14", "on 8 = 1").then("beside 0 = 8", "rungBeside 1 = 1",
                "beside 7 = 8", "rungBeside 15 = 8", "beside 8 = BAD", "rungBeside 15 = 8");
    }

    private static void besideTwice() {
        written("27: each time from THE BOARD as it was").then("beside 0 = 2", "beside 0 = 2", "beside 1 = 2", "beside 0 = 2",
            "on 0 = 1", "told 0 3 = 1", "why 0 = 1", "passed 1 0 = 1", "count 7 = 1", "bout 0 3 = 1", "told 1 4 = 1",
            "told 0 5 = 1", "count 5 = 0");
    }

    /** Only 0 and 3 may meet; on the second day one of them is absent, so that its score is 0. */
    private static Run heldAndYoung(String title, int up, boolean heldWins, int absent) {
        return Run.of(title, "wrestler 1 0 NONE", "wrestler 0 0 0", "wrestler 0 0 0", "wrestler 2 1 0", "line -1 -1 " + up,
            "meet 2", "draw = 1", "bout 0 1 = 0", "bout 0 2 = 3", "result 0 " + heldWins, "absent " + absent + " true",
            "draw = 0", "anew = 0");
    }

    private static void besideKinds() {
        heldAndYoung("27: a HELD one goes down by 1 beside, too", -2, true, 0).then("mark 0 1 = 0", "beside 0 = 2",
            "rungBeside 1 = 0", "rungBeside 0 = 1", "rungBeside 2 = 2", "mark 0 1 = 0");
        heldAndYoung("27: a YOUNG one goes up by twice as many beside, too", 1, false, 3).then("mark 3 2 = 0", "beside 0 = 3",
            "rungBeside 0 = 0", "rungBeside 3 = 1", "rungBeside 1 = 2", "rungBeside 2 = 3", "mark 3 2 = 0");
    }

    private static void rungBesideNone() {
        Run.apart("28: NONE: there was none", 2).then("rungBeside 0 = NONE", "meet 1", "draw", "result 0 true", "anew",
            "rungBeside 0 = NONE", "beside 1 = BAD", "rungBeside 0 = NONE", "beside 0 = 0", "rungBeside 0 = 0",
            "rungBeside 1 = 1");
        Run.apart("28: refused by STATE", 2).then("meet 1", "draw", "beside 0 = STATE", "rungBeside 0 = NONE");
        written("28: one that came later").then("beside 0 = 2", "wrestler 0 7 NONE = 4", "rungBeside 4 = NONE",
            "rungBeside 3 = 2");
    }

    private static void rungBesideLatest() {
        written("28: the latest that was not refused").then("beside 0 = 2", "beside 1 = 2", "rungBeside 0 = 1", "beside 2 = BAD",
            "rungBeside 0 = 1", "leave 3", "beside 0 = STATE", "rungBeside 0 = 1", "rungBeside 2 = 2", "meet 1",
            "rungBeside 2 = 2", "draw", "rungBeside 2 = 2", "result 0 true", "anew", "rungBeside 2 = 2");
    }

    private static void rungBesideRefused() {
        written("28: BAD").all("BAD", "rungBeside -1", "rungBeside 4", "rungBeside NONE", "rungBeside MIN", "rungBeside MAX")
            .then("rungBeside 3 = NONE");
        written("28: NOTHING").then("beside 0", "leave 3", "rungBeside 3 = NOTHING", "rungBeside 0 = 0", "rungBeside 4 = BAD");
    }
}
