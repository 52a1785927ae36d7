import java.util.Arrays;

/**
 * A run of calls on one object, told in rows: "call arguments = the answer that is due", several
 * parted by ';'. A row without an answer only has to be taken, not refused. An answer that is due
 * may be a refusal's name, or a finding's: then finding(), findings() and digest() are looked at, too.
 */
final class Run {
    /** What the document lets an object be used for. */
    private static final int MOST_CALLS = 512;

    private final String title;
    private final RankBoard board = new RankBoard();
    private int calls;

    private Run(String title) {
        this.title = title;
    }

    static Run of(String title, String... rows) {
        return new Run(title).then(rows);
    }

    /** So many wrestlers of kind 0, of stables 0, 1, .. 7, 0, .. and of no kin. */
    static Run apart(String title, int wrestlers) {
        Run run = new Run(title);
        for (int i = 0; i < wrestlers; i++) {
            run.one("wrestler 0 " + i % 8 + " NONE");
        }
        return run;
    }

    /** So many wrestlers of kind 0 that are all of one stable. */
    static Run mates(String title, int wrestlers) {
        return new Run(title).each(wrestlers, "wrestler 0 0 NONE");
    }

    Run then(String... rows) {
        for (String row : rows) {
            for (String one : row.split(";")) {
                one(one.trim());
            }
        }
        return this;
    }

    /** The rows for each number below n, which stands for '#' in them. */
    Run each(int n, String... rows) {
        for (int i = 0; i < n; i++) {
            for (String row : rows) {
                then(row.replace("#", String.valueOf(i)));
            }
        }
        return this;
    }

    /** Each of these calls answers the same. */
    Run all(String due, String... rows) {
        for (String row : rows) {
            for (String one : row.split(";")) {
                one(one.trim() + " = " + due);
            }
        }
        return this;
    }

    long ask(String call) {
        String[] words = call.trim().split(" +");
        int[] a = new int[words.length - 1];
        for (int i = 0; i < a.length; i++) {
            a[i] = (int) number(words[i + 1]);
        }
        calls++;
        return Calls.ask(board, words[0], a);
    }

    private void one(String row) {
        String[] parts = row.split("=");
        String call = parts[0].trim();
        String what = title + ": " + call;
        if (parts.length == 1) {
            long got = ask(call);
            Check.holds(what + " (answered " + got + ") is taken", got < -4 || got > -1);
        } else {
            due(what, call, parts[1].trim());
        }
        Check.holds(what + " is within " + MOST_CALLS + " calls", calls <= MOST_CALLS);
    }

    private void due(String what, String call, String due) {
        int finding = Findings.number(due);
        if (finding <= 0 && !isRefusal(due)) {
            Check.due(what, ask(call), number(due));
            return;
        }
        long[] told = findings();
        long digest = ask("digest");
        Check.due(what, ask(call), finding > 0 ? RankBoard.FINDING : number(due));
        Check.due(what + " leaves digest()", ask("digest"), digest);
        if (finding > 0) {
            told[0] = finding;
            told[finding]++;
        }
        Check.holds(what + " changes finding() and findings() as is due", Arrays.equals(findings(), told));
    }

    private static boolean isRefusal(String due) {
        return due.equals("BAD") || due.equals("FULL") || due.equals("STATE");
    }

    private long[] findings() {
        long[] told = new long[6];
        told[0] = ask("finding");
        for (int f = 1; f <= 5; f++) {
            told[f] = ask("findings " + f);
        }
        return told;
    }

    private static long number(String word) {
        switch (word) {
            case "BAD": return RankBoard.BAD;
            case "FULL": return RankBoard.FULL;
            case "STATE": return RankBoard.STATE;
            case "NONE": return RankBoard.NONE;
            case "MIN": return Integer.MIN_VALUE;
            case "MAX": return Integer.MAX_VALUE;
            case "true": return 1;
            case "false": return 0;
            default: return Long.parseLong(word);
        }
    }
}
