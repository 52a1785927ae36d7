import java.util.Arrays;
import java.util.Random;

/** Long runs of calls by chance (the same each time), compared with the plain model. */
public final class ModelTest {
    private static final int CALLS = 512;
    private static final String[] READS = {
        "told", "is", "on", "mark", "mean", "price", "barred", "cost", "bout", "sat", "why", "passed",
        "rungBeside", "leaders", "meets", "champion", "count", "finding", "findings", "digest"
    };
    private static final String[] WRITES = {
        "wrestler", "leave", "sheet", "lay", "tear", "copy", "prices", "meet", "absent", "draw",
        "result", "line", "anew", "beside", "playOff", "wins"
    };
    private static final int[] ODD = {
        Integer.MIN_VALUE, -1000, -16, -10, -9, -2, -1, 0, 1, 2, 3, 4, 5, 7, 8, 12, 15, 16, 17, 32, 120,
        Integer.MAX_VALUE
    };

    private final Random random;
    private final RankBoard board = new RankBoard();
    private final Model model = new Model();
    private final int run;
    private int calls;

    private ModelTest(int run) {
        this.run = run;
        this.random = new Random(run);
    }

    public static void main(String[] args) {
        for (int run = 0; run < 1500; run++) {
            new ModelTest(run).play();
        }
        for (int run = 0; run < 4; run++) {
            new ModelTest(5000 + run).playFull();
        }
        Check.end();
    }

    private void play() {
        int wrestlers = random.nextInt(11);
        for (int i = 0; i < wrestlers; i++) {
            ask("wrestler", between(0, 2), between(0, 7), random.nextBoolean() ? -9 : between(0, 7));
        }
        int lines = random.nextInt(13);
        for (int i = 0; i < lines; i++) {
            int low = between(-5, 5);
            ask("line", low, low + random.nextInt(4), between(-5, 5));
        }
        boolean orderly = run % 4 != 0;
        while (calls < CALLS) {
            int dice = random.nextInt(100);
            if (orderly && dice < 45) {
                goOn();
            } else if (dice < 80) {
                any(READS[random.nextInt(READS.length)]);
            } else {
                any(WRITES[random.nextInt(WRITES.length)]);
            }
        }
    }

    /** Sixteen wrestlers, few barred: the fitting at its largest. */
    private void playFull() {
        for (int i = 0; i < 16; i++) {
            ask("wrestler", i % 3, i % 8, i % 5 == 0 ? i % 3 : -9);
        }
        ask("line", 1, 15, 3);
        ask("line", -15, -1, -3);
        if (run % 2 == 0) {
            ask("sheet", 0, 2);
            ask("lay", 0, 1, 9);
            ask("prices", 0);
        }
        while (calls < 200) {
            goOn();
        }
        ask("digest");
    }

    /** What brings a meet forward. */
    private void goOn() {
        if (model.call("count", 3) == 0) {
            if (model.call("count", 7) > 0 && random.nextInt(3) > 0 && model.call("count", 4) > 0) {
                ask("beside", random.nextInt((int) model.call("count", 4)));
                ask("rungBeside", random.nextInt(16));
                ask("passed", random.nextInt(16), random.nextInt(16));
                ask("why", random.nextInt(16));
            }
            ask("meet", between(1, 5));
        } else if (model.call("count", 5) > 0) {
            int bout = 0;
            while (model.call("bout", bout, 3) != -9 && bout < 120) {
                bout++;
            }
            ask("result", bout, random.nextInt(2));
        } else if (model.call("count", 2) < model.call("count", 3)) {
            ask("draw");
            ask("cost");
            ask("sat");
        } else if (model.call("meets", 0) != -9) {
            ask("meets", random.nextInt(2));
            ask("wins", random.nextInt(2));
        } else if (random.nextInt(3) == 0) {
            ask("playOff");
        } else {
            ask("anew");
        }
    }

    private int between(int low, int high) {
        return low + random.nextInt(high - low + 1);
    }

    private int upTo(int high) {
        return random.nextInt(12) == 0 ? ODD[random.nextInt(ODD.length)] : between(0, high);
    }

    private int wrestlerNumber() {
        return upTo((int) Math.max(0, model.call("count", 0) - 1));
    }

    private int boutNumber() {
        return upTo((int) Math.max(0, model.call("count", 4) - 1));
    }

    private int flag() {
        return random.nextInt(2);
    }

    private void any(String name) {
        switch (name) {
            case "wrestler":
                if (model.call("count", 1) < 10) {
                    ask(name, upTo(2), upTo(7), flag() == 0 ? -9 : upTo(7));
                }
                break;
            case "leave":
                if (random.nextInt(3) == 0) {
                    ask(name, wrestlerNumber());
                }
                break;
            case "told": ask(name, wrestlerNumber(), upTo(6)); break;
            case "is": case "mark": ask(name, wrestlerNumber(), upTo(2)); break;
            case "on": case "price": ask(name, upTo(15)); break;
            case "mean": ask(name, upTo(7)); break;
            case "sheet": ask(name, upTo(3), upTo(4)); break;
            case "lay": ask(name, upTo(3), upTo(4), between(-300, 300)); break;
            case "tear": ask(name, upTo(3)); break;
            case "copy": ask(name, upTo(3), upTo(3), upTo(3), upTo(3), upTo(3)); break;
            case "prices": ask(name, flag() == 0 ? -9 : upTo(3)); break;
            case "meet": ask(name, upTo(6)); break;
            case "absent": ask(name, wrestlerNumber(), random.nextInt(3) == 0 ? 1 : 0); break;
            case "barred": case "passed": ask(name, wrestlerNumber(), wrestlerNumber()); break;
            case "result": ask(name, boutNumber(), flag()); break;
            case "bout": ask(name, boutNumber(), upTo(3)); break;
            case "line": ask(name, between(-5, 3), between(-3, 5), upTo(15)); break;
            case "why": case "rungBeside": ask(name, wrestlerNumber()); break;
            case "beside": ask(name, boutNumber()); break;
            case "meets": case "wins": ask(name, flag()); break;
            case "count": ask(name, upTo(7)); break;
            case "findings": ask(name, upTo(5)); break;
            default: ask(name); break;
        }
    }

    private void ask(String name, int... a) {
        calls++;
        long want = model.call(name, a);
        long got = Calls.ask(board, name, a);
        Check.due("run " + run + ", call " + calls + ": " + name + Arrays.toString(a), got, want);
    }
}
