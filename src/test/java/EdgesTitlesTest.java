/** Promises 29 to 33: each edge and each refusal that they name, just inside and just outside. */
public final class EdgesTitlesTest {
    public static void main(String[] args) {
        leadersState();
        leadersOfNone();
        leadersOneAndMany();
        playOffState();
        playOffOncePerMeet();
        playOffOfNone();
        playOffOfOne();
        playOffOfTwo();
        playOffOfThree();
        meetsNone();
        winsState();
        championOfTheLatest();
        championThatLeft();
        Check.end();
    }

    private static void leadersState() {
        Run.mates("29: STATE: no MEET", 2).then("leaders = STATE", "meet 1", "leaders = 3", "draw", "leaders = 3", "playOff = 2",
            "leaders = 3", "wins true", "leaders = 3", "anew", "leaders = STATE", "meet 1", "leaders = 3");
    }

    private static void leadersOfNone() {
        Run.of("29: nobody on THE BOARD", "meet 1", "leaders = 0", "draw", "leaders = 0");
        Run.mates("29: all LEFT", 2).then("leave 0", "leave 1", "meet 1", "leaders = 0");
    }

    private static void leadersOneAndMany() {
        Run.mates("29: one on THE BOARD", 1).then("meet 1", "leaders = 1");
        Run.mates("29: the last of sixteen alone", 16).each(15, "leave # = 0").then("meet 1", "leaders = 32768");
        Run.mates("29: sixteen", 16).then("meet 1", "leaders = 65535");
        Run.apart("29: none, one, two with a win", 4).then("meet 1", "draw = 2", "leaders = 15", "result 1 false", "leaders = 8",
            "result 0 true", "leaders = 9");
        Run.mates("29: absent ones, too", 2).then("absent 0 true", "meet 1", "draw", "leaders = 3");
        Run.apart("29: of all that did not LEAVE", 3).then("leave 1", "meet 1", "draw = 1", "leaders = 5", "result 0 true",
            "leaders = 1");
    }

    private static void playOffState() {
        Run.apart("30: STATE: no MEET, not all DAYS drawn, results lack", 2).then("playOff = STATE", "meet 2", "playOff = STATE",
            "draw = 1", "playOff = STATE", "result 0 true", "playOff = STATE", "draw = 0", "playOff = 1", "anew",
            "playOff = STATE", "told 0 6 = 1");
        Run.apart("30: one result lacks", 4).then("meet 1", "draw = 2", "result 1 true", "playOff = STATE", "champion = NONE",
            "result 0 true", "playOff = 2");
    }

    private static void playOffOncePerMeet() {
        Run.mates("30: STATE: there was one in this MEET", 2).then("meet 1", "draw", "playOff = 2", "playOff = STATE",
            "wins false = 1", "playOff = STATE", "told 1 6 = 1", "champion = 1", "anew", "playOff = STATE", "meet 1",
            "playOff = STATE", "draw", "playOff = 2", "wins false = 1", "told 1 6 = 2");
        Run.mates("30: STATE: one that was over at once", 1).then("meet 1", "draw", "playOff = 1", "playOff = STATE",
            "told 0 6 = 1", "anew", "meet 1", "draw", "playOff = 1", "told 0 6 = 2");
    }

    private static void playOffOfNone() {
        Run.of("30: STATE: no WRESTLERS", "meet 1", "draw = 0", "playOff = STATE", "meets false = NONE", "meets true = NONE",
            "wins true = STATE", "champion = NONE", "anew = 0");
        Run.mates("30: STATE: all LEFT", 2).then("leave 0", "leave 1", "meet 1", "draw = 0", "playOff = STATE",
            "champion = NONE", "anew = 0");
    }

    private static void playOffOfOne() {
        Run.mates("30: one: THE CHAMPION at once", 1).then("meet 1", "draw", "champion = NONE", "playOff = 1", "champion = 0",
            "told 0 6 = 1", "meets false = NONE", "meets true = NONE", "wins true = STATE", "wins false = STATE",
            "told 0 6 = 1", "anew = 0");
        Run.apart("30: one LEADER of many", 4).then("absent 2 true", "absent 3 true", "meet 1", "draw = 1", "result 0 false",
            "playOff = 1", "champion = 1", "told 1 6 = 1", "told 0 6 = 0");
    }

    private static void playOffOfTwo() {
        Run.mates("30: two, the first wins", 2).then("meet 1", "draw", "playOff = 2", "meets false = 0", "meets true = 1",
            "wins true = 1", "champion = 0", "told 0 6 = 1", "told 1 6 = 0", "meets false = NONE", "wins true = STATE");
        Run.mates("30: two, the second wins", 2).then("meet 1", "draw", "playOff = 2", "wins false = 1", "champion = 1",
            "told 1 6 = 1", "told 0 6 = 0", "meets true = NONE", "wins false = STATE");
    }

    /** Who wins comes to the end of the row behind those that wait. */
    private static void playOffOfThree() {
        Run.mates("30: three", 3).then("meet 1", "draw", "playOff = 3", "meets false = 0", "meets true = 1", "wins true = 2",
            "champion = NONE", "meets false = 2", "meets true = 0", "wins false = 1", "champion = 0", "told 0 6 = 1");
        Run.mates("30: four", 4).then("meet 1", "draw", "playOff = 4", "wins false = 3", "meets false = 2", "meets true = 3",
            "wins false = 2", "meets false = 1", "meets true = 3", "wins true = 1", "champion = 1");
        Run.mates("30: by RUNGS", 2).then("line -1 -1 -1", "absent 0 true", "meet 1", "draw", "anew = 2", "absent 0 false",
            "meet 1", "draw", "playOff = 2", "meets false = 1", "meets true = 0");
    }

    private static void meetsNone() {
        Run.mates("31: NONE: there was none", 2).then("meets false = NONE", "meets true = NONE", "meet 1", "meets false = NONE",
            "draw", "meets false = NONE", "playOff = 2", "meets false = 0", "meets true = 1", "meets false = 0",
            "finding = 0", "wins true = 1", "meets false = NONE", "meets true = NONE", "anew", "meets false = NONE", "meet 1",
            "meets true = NONE");
    }

    private static void winsState() {
        Run.mates("32: STATE: none meet", 2).then("wins true = STATE", "meet 1", "wins true = STATE", "draw", "wins false = STATE",
            "playOff = 2", "wins true = 1", "wins true = STATE", "wins false = STATE", "told 0 6 = 1", "anew",
            "wins true = STATE", "meet 1", "wins true = STATE", "champion = 0");
    }

    private static void championOfTheLatest() {
        Run.mates("33: of the latest PLAY-OFF that is over", 2).then("champion = NONE", "meet 1", "draw", "playOff = 2",
            "champion = NONE", "wins false = 1", "champion = 1", "anew", "champion = 1", "meet 1", "champion = 1", "draw",
            "champion = 1", "playOff = 2", "champion = 1", "wins true = 1", "champion = 0", "anew", "meet 1", "draw", "anew",
            "champion = 0");
    }

    private static void championThatLeft() {
        Run.mates("33: though it LEFT", 1).then("meet 1", "draw", "playOff = 1", "anew", "leave 0 = 0", "champion = 0",
            "told 0 6 = NOTHING", "meet 1 = 0", "draw", "playOff = STATE", "anew", "champion = 0");
    }
}
