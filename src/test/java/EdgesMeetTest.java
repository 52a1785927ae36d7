/** Promises 15 to 22: each edge and each refusal that they name, just inside and just outside. */
public final class EdgesMeetTest {
    public static void main(String[] args) {
        meetBad();
        meetState();
        meetOfHowMany();
        absentTold();
        absentRefused();
        absentAsItIsDrawn();
        barredEach();
        barredRefused();
        barredInTheMeetThatGoesOn();
        drawWithoutMeet();
        drawWhileResultsLack();
        drawAllDays();
        dayWithNobody();
        dayWithOne();
        dayWithTwo();
        dayWithAll();
        dayOfTheBarred();
        dayOfLikeCosts();
        costBefore();
        satBefore();
        resultFirstAndLast();
        resultRefused();
        boutFirstAndLast();
        boutBad();
        boutOfTheLatestMeet();
        greatestMeet();
        Check.end();
    }

    private static void meetBad() {
        Run.mates("15: BAD", 2).all("BAD", "meet 0", "meet 16", "meet -1", "meet NONE", "meet MIN", "meet MAX")
            .then("count 3 = 0", "meet 1 = 2", "count 3 = 1");
        Run.mates("15: the most days", 2).then("meet 15 = 2", "count 3 = 15").all("BAD", "meet 0", "meet 16")
            .then("count 3 = 15");
    }

    private static void meetState() {
        Run.mates("15: STATE: there is one", 2).then("meet 2 = 2", "meet 2 = STATE", "meet 1 = STATE", "meet 15 = STATE",
            "count 3 = 2", "draw", "meet 1 = STATE", "draw", "meet 1 = STATE", "playOff", "meet 1 = STATE", "wins true",
            "meet 1 = STATE", "anew", "meet 1 = 2");
    }

    private static void meetOfHowMany() {
        Run.of("15: of none", "meet 1 = 0");
        Run.mates("15: of one", 1).then("meet 1 = 1");
        Run.mates("15: of sixteen", 16).then("meet 1 = 16");
        Run.mates("15: of those that did not LEAVE", 16).then("leave 3", "leave 15", "meet 1 = 14");
        Run.mates("15: of none that did not LEAVE", 1).then("leave 0", "meet 1 = 0");
    }

    private static void absentTold() {
        Run.mates("16: 1 if it was", 2).then("absent 0 false = 0", "absent 0 true = 0", "absent 0 true = 1", "absent 1 true = 0",
            "absent 0 false = 1", "absent 0 false = 0", "absent 1 false = 1");
        Run.mates("16: also between MEETS, and through them", 1).then("absent 0 true = 0", "meet 1", "absent 0 true = 1",
            "draw", "absent 0 true = 1", "anew", "absent 0 true = 1", "meet 1", "draw", "told 0 5 = 1");
    }

    private static void absentRefused() {
        Run.mates("16: BAD", 2).all("BAD", "absent -1 true", "absent 2 true", "absent 2 false", "absent NONE true",
            "absent MIN true", "absent MAX false").then("absent 1 false = 0");
        Run.mates("16: NOTHING", 2).then("absent 1 true = 0", "leave 1").all("NOTHING", "absent 1 true", "absent 1 false")
            .then("absent 0 false = 0");
    }

    private static void absentAsItIsDrawn() {
        Run.apart("16: absent as the DAY is drawn", 2).then("meet 2", "absent 0 true", "draw = 0", "told 0 5 = 1",
            "told 1 5 = 0", "sat = 2", "absent 0 false = 1", "draw = 1", "absent 0 true = 0", "told 0 5 = 1",
            "result 0 true = 1", "told 0 4 = 1", "told 0 5 = 1", "anew");
    }

    private static void barredEach() {
        Run run = Run.of("17: STABLE 1, KIN 2, met 4, together", "wrestler 0 0 0", "wrestler 0 0 NONE", "wrestler 0 1 0",
            "wrestler 0 0 0", "wrestler 0 7 7", "wrestler 0 7 7", "wrestler 0 6 NONE");
        run.then("barred 0 1 = 1", "barred 1 0 = 1", "barred 0 2 = 2", "barred 2 0 = 2", "barred 0 3 = 3", "barred 4 5 = 3",
            "barred 1 2 = 0", "barred 0 4 = 0", "barred 1 6 = 0", "barred 6 1 = 0");
        run.then("meet 1", "draw = 3", "bout 0 1 = 1", "bout 0 2 = 2", "barred 1 2 = 4", "barred 2 1 = 4", "barred 1 6 = 0");
    }

    private static void barredRefused() {
        Run.mates("17: BAD: also twice the same", 3).all("BAD", "barred 0 0", "barred 2 2", "barred 3 3", "barred -1 -1",
            "barred 0 3", "barred 3 0", "barred 0 -1", "barred -1 0", "barred MIN 0", "barred 0 MAX")
            .then("barred 0 2 = 1", "barred 2 1 = 1");
        Run.mates("17: NOTHING: either", 3).then("leave 1").all("NOTHING", "barred 0 1", "barred 1 0")
            .all("BAD", "barred 1 1", "barred 1 3", "barred -1 1").then("barred 0 2 = 1", "leave 2", "barred 1 2 = NOTHING");
    }

    private static void barredInTheMeetThatGoesOn() {
        Run.apart("17: met in the MEET that goes on", 2).then("barred 0 1 = 0", "meet 1", "barred 0 1 = 0", "draw = 1",
            "barred 0 1 = 4", "result 0 true", "barred 0 1 = 4", "anew", "barred 0 1 = 0", "meet 2", "barred 0 1 = 0",
            "draw = 1", "result 0 true", "draw = 0", "barred 0 1 = 4");
    }

    private static void drawWithoutMeet() {
        Run.apart("18: STATE: no MEET", 2).then("draw = STATE", "meet 1", "draw = 1", "result 0 true", "anew", "draw = STATE",
            "meet 1", "draw = 1");
    }

    private static void drawWhileResultsLack() {
        Run.apart("18: STATE: results lack", 4).then("meet 2", "draw = 2", "draw = STATE", "result 1 true", "draw = STATE",
            "count 2 = 1", "result 0 true", "draw = 2", "count 2 = 2");
    }

    private static void drawAllDays() {
        Run.mates("18: STATE: all DAYS were drawn", 2).then("meet 1", "draw = 0", "draw = STATE", "sat = 3", "cost = 20000");
        Run.mates("18: of fifteen", 2).then("meet 15").each(15, "draw = 0").then("draw = STATE", "count 2 = 15");
        Run.apart("18: all drawn, and results lack", 2).then("meet 1", "draw = 1", "draw = STATE", "result 0 true",
            "draw = STATE");
    }

    private static void dayWithNobody() {
        Run.of("18: nobody on THE BOARD", "meet 1", "draw = 0", "cost = 0", "sat = 0", "count 4 = 0", "count 5 = 0",
            "count 2 = 1", "anew = 0");
        Run.apart("18: all are ABSENT", 2).then("absent 0 true", "absent 1 true", "meet 1", "draw = 0", "cost = 0", "sat = 0",
            "told 0 5 = 1", "told 1 5 = 1", "count 4 = 0", "anew = 0");
    }

    private static void dayWithOne() {
        Run.mates("18: one on THE BOARD", 1).then("meet 1", "draw = 0", "cost = 10000", "sat = 1", "told 0 4 = 0",
            "told 0 5 = 0");
        Run.mates("18: one of sixteen is there", 16).each(15, "absent # true").then("meet 1", "draw = 0", "cost = 10000",
            "sat = 32768", "told 15 5 = 0", "told 0 5 = 1", "told 14 5 = 1");
    }

    private static void dayWithTwo() {
        Run.apart("18: two on THE BOARD", 2).then("meet 1", "draw = 1", "cost = 1", "sat = 0", "bout 0 1 = 0", "bout 0 2 = 1");
        Run run = Run.apart("18: the top and the lowest of sixteen", 15).then("wrestler 0 1 NONE");
        for (int w = 1; w < 15; w++) {
            run.then("absent " + w + " true");
        }
        run.then("meet 1", "draw = 1", "cost = 15", "bout 0 1 = 0", "bout 0 2 = 15", "sat = 0");
    }

    private static void dayWithAll() {
        Run.apart("18: sixteen", 16).then("meet 1", "draw = 8", "cost = 8", "sat = 0", "bout 7 1 = 14", "bout 7 2 = 15",
            "count 4 = 8", "count 5 = 8");
        Run.apart("18: fifteen, the lowest sits out", 15).then("meet 1", "draw = 7", "cost = 10007", "sat = 16384");
        Run.mates("18: sixteen that are mates", 16).then("meet 1", "draw = 0", "cost = 160000", "sat = 65535", "count 5 = 0");
        Run.of("18: sixteen that are kin").each(16, "wrestler 0 0 7").then("meet 1", "draw = 0", "cost = 160000");
        Run.of("18: no KIN is no kin", "wrestler 0 0 NONE", "wrestler 0 1 NONE", "meet 1", "draw = 1");
    }

    private static void dayOfTheBarred() {
        Run.of("18: mates", "wrestler 0 7 NONE", "wrestler 0 7 NONE", "meet 1", "draw = 0", "cost = 20000", "sat = 3");
        Run.of("18: kin", "wrestler 0 0 7", "wrestler 0 7 7", "meet 1", "draw = 0", "cost = 20000", "sat = 3");
        Run.of("18: kin 0", "wrestler 0 0 0", "wrestler 0 7 0", "meet 1", "draw = 0", "cost = 20000", "sat = 3");
        Run.apart("18: nobody twice", 2).then("meet 2", "draw = 1", "result 0 false", "draw = 0", "cost = 20000", "sat = 3");
        Run.of("18: the uppermost sits out, if it must", "wrestler 0 0 0", "wrestler 0 0 NONE", "wrestler 0 1 0", "meet 1",
            "draw = 1", "sat = 1", "bout 0 1 = 1", "bout 0 2 = 2", "cost = 10001");
        Run.of("18: more pairs ahead of a cheap one", "wrestler 0 0 NONE", "wrestler 0 1 NONE", "wrestler 0 2 0",
            "wrestler 0 1 0", "meet 1", "draw = 2", "bout 0 2 = 3", "bout 1 1 = 1", "bout 1 2 = 2", "cost = 4", "sat = 0");
    }

    /** Without bytes a pair costs its rungs; 0 and 1, 2 and 3 have met on the first day. */
    private static void dayOfLikeCosts() {
        Run.apart("18: of like costs the mate on the least RUNG", 4).then("sheet 0 0", "prices 0", "meet 2", "draw = 2",
            "result 0 false", "result 1 false", "draw = 2", "cost = 4", "bout 2 1 = 0", "bout 2 2 = 2", "bout 3 1 = 1",
            "bout 3 2 = 3");
        Run.apart("18: of three the upper two", 3).then("meet 1", "draw = 1", "bout 0 1 = 0", "bout 0 2 = 1", "sat = 4");
        Run.apart("18: sitting out last of all", 3).then("meet 2", "draw = 1", "result 0 true", "draw = 1", "cost = 10001",
            "bout 1 1 = 1", "bout 1 2 = 2", "sat = 1");
        Run.apart("18: as dear, the uppermost does not sit out", 3).then("meet 2", "draw = 1", "result 0 true",
            "sheet 0 2", "lay 0 0 1", "prices 0", "draw = 1", "cost = 10002", "bout 1 1 = 0", "bout 1 2 = 2", "sat = 2");
    }

    private static void costBefore() {
        Run.apart("19: 0 before", 2).then("cost = 0", "meet 2", "cost = 0", "draw", "cost = 1", "result 0 true", "cost = 1",
            "draw", "cost = 20000", "draw = STATE", "cost = 20000", "anew", "cost = 20000");
    }

    private static void satBefore() {
        Run.apart("22: 0 before", 2).then("sat = 0", "meet 2", "sat = 0", "draw", "sat = 0", "result 0 true", "draw", "sat = 3",
            "draw = STATE", "sat = 3", "anew", "sat = 3");
        Run.apart("22: on the latest DAY alone", 3).then("meet 2", "draw", "sat = 4", "result 0 true", "absent 0 true", "draw",
            "sat = 0");
    }

    private static void resultFirstAndLast() {
        Run.apart("20: the first and the last BOUT", 16).then("meet 1", "draw = 8", "result 7 false = 1", "result 0 true = 1",
            "count 5 = 6", "bout 0 3 = 0", "bout 7 3 = 15", "told 15 4 = 1", "told 14 5 = 1", "told 0 4 = 1", "told 1 5 = 1",
            "told 2 4 = 0", "told 2 5 = 0");
    }

    private static void resultRefused() {
        Run.apart("20: BAD", 4).then("result 0 true = BAD", "meet 2", "result 0 true = BAD", "draw = 2")
            .all("BAD", "result -1 true", "result 2 true", "result NONE true", "result MIN true", "result MAX false")
            .then("count 5 = 2", "result 1 true = 1", "result 0 true = 1", "result 2 true = BAD", "draw = 2",
                "result 2 true = 1", "result 3 true = 1", "result 4 true = BAD");
        Run.apart("20: STATE: it has one", 2).then("meet 1", "draw", "result 0 true = 1", "result 0 true = STATE",
            "result 0 false = STATE", "told 0 4 = 1", "told 0 5 = 0", "told 1 5 = 1", "bout 0 3 = 0", "anew",
            "result 0 false = STATE", "meet 1", "result 0 false = BAD");
    }

    private static void boutFirstAndLast() {
        Run run = Run.apart("21: the first and the last BOUT, 0 to 3", 4).then("meet 2", "draw = 2", "result 0 true",
            "result 1 false", "draw = 2", "result 2 false");
        run.then("bout 0 0 = 0", "bout 0 1 = 0", "bout 0 2 = 1", "bout 0 3 = 0", "bout 1 0 = 0", "bout 1 1 = 2",
            "bout 1 2 = 3", "bout 1 3 = 3", "bout 2 0 = 1", "bout 2 1 = 0", "bout 2 2 = 3", "bout 2 3 = 3", "bout 3 0 = 1",
            "bout 3 1 = 1", "bout 3 2 = 2", "bout 3 3 = NONE", "bout 4 0 = BAD", "bout -1 0 = BAD");
        Run.apart("21: the upper one first, whatever its number", 2).then("line -1 -1 -1", "absent 0 true", "meet 1", "draw",
            "anew = 2", "absent 0 false", "meet 1", "draw = 1", "bout 0 1 = 1", "bout 0 2 = 0", "result 0 true", "bout 0 3 = 1");
    }

    private static void boutBad() {
        Run.apart("21: BAD", 2).then("bout 0 0 = BAD", "meet 1", "bout 0 0 = BAD", "draw = 1").all("BAD", "bout 1 0",
            "bout -1 0", "bout 0 -1", "bout 0 4", "bout 0 MIN", "bout 0 MAX", "bout MIN 0", "bout MAX 0", "bout 1 4")
            .then("bout 0 0 = 0", "bout 0 3 = NONE");
    }

    private static void boutOfTheLatestMeet() {
        Run.apart("21: of the latest MEET", 2).then("meet 1", "draw", "result 0 false", "anew", "bout 0 3 = 1", "leave 1",
            "bout 0 3 = 1", "bout 0 2 = 1", "meet 1", "bout 0 0 = BAD", "count 4 = 0");
    }

    /** Eight bouts on all days but where the barred leave fewer: the first and the last day, the last bout. */
    private static void greatestMeet() {
        Run run = Run.apart("18: sixteen over fifteen DAYS", 16).then("meet 15 = 16");
        int number = 0;
        for (int day = 0; day < 15; day++) {
            long bouts = run.ask("draw");
            Check.holds("18: as many as there may be on day " + day, bouts >= 0 && bouts <= 8);
            Check.due("22: who has no bout sits out", Long.bitCount(run.ask("sat")), 16 - 2 * bouts);
            for (int i = 0; i < bouts; i++) {
                run.then("bout " + number + " 0 = " + day, "result " + number + " true = 1");
                number++;
            }
        }
        run.then("bout " + number + " 0 = BAD");
        Check.holds("18: each meets each but mates, once", number <= 112);
        run.then("draw = STATE", "count 4 = " + number, "count 5 = 0", "anew = 0");
    }
}
