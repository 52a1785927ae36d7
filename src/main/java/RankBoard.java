import java.util.Arrays;

/**
 * A rank board: wrestlers on rungs, meets whose bouts are drawn by the cheapest
 * fitting, a board that is written anew behind each meet, and titles.
 */
public final class RankBoard {
    public static final int BAD = -1, FULL = -2, FINDING = -3, STATE = -4, NONE = -9;

    private static final int NOTHING = 1, BEYOND = 2, UNLIKE = 3, NOUGHT = 4, SIZE = 5;
    private static final int PLAIN = 0, HELD = 1, YOUNG = 2;
    private static final int MOST_WRESTLERS = 16;
    private static final int GROUPS = 8;
    private static final int SHEET_COUNT = 4, MOST_BYTES = 16;
    private static final int MOST_DAYS = 15;
    private static final int MOST_BOUTS = MOST_DAYS * MOST_WRESTLERS / 2;
    private static final int MOST_LINES = 12, MOST_STEPS = 15;
    private static final int SAME_STABLE = 1, SAME_KIN = 2, HAVE_MET = 4;

    private final Log log;
    private final Roster roster;
    private final Sheets sheets;
    private final Tourney tourney;
    private final Fitting fitting;
    private final Custom custom;
    private final Writing writing;
    private final TitleRow titleRow;

    public RankBoard() {
        log = new Log();
        roster = new Roster();
        sheets = new Sheets();
        tourney = new Tourney();
        fitting = new Fitting();
        custom = new Custom();
        writing = new Writing();
        titleRow = new TitleRow();
    }

    // ---- 1 wrestlers, sheets

    public int wrestler(int kind, int stable, int kin) {
        if (!isKind(kind) || !isGroup(stable) || (kin != NONE && !isGroup(kin))) {
            return BAD;
        }
        if (roster.ever >= MOST_WRESTLERS) {
            return FULL;
        }
        if (tourney.going) {
            return STATE;
        }
        writing.fresh = false;
        return roster.add(kind, stable, kin);
    }

    public int leave(int w) {
        if (!roster.knows(w)) {
            return BAD;
        }
        if (tourney.going) {
            return STATE;
        }
        if (roster.gone[w]) {
            return log.found(NOTHING);
        }
        writing.fresh = false;
        return roster.remove(w);
    }

    public int told(int w, int what) {
        if (what < 0 || what >= Roster.FACTS) {
            return BAD;
        }
        int refusal = refusalOf(w);
        return refusal != 0 ? refusal : roster.fact(w, what);
    }

    public int is(int w, int kind) {
        if (!isKind(kind)) {
            return BAD;
        }
        int refusal = refusalOf(w);
        if (refusal != 0) {
            return refusal;
        }
        return roster.isOf(w, kind) ? 1 : 0;
    }

    public int on(int rung) {
        if (rung < 0 || rung >= roster.standing) {
            return NONE;
        }
        return roster.board[rung];
    }

    public int mark(int w, int kind) {
        if (!isKind(kind) || kind == PLAIN) {
            return BAD;
        }
        int refusal = refusalOf(w);
        if (refusal != 0) {
            return refusal;
        }
        return roster.isOf(w, kind) ? roster.marks[w] : log.found(UNLIKE);
    }

    public int mean(int stable) {
        if (!isGroup(stable)) {
            return BAD;
        }
        int sum = 0;
        int members = 0;
        for (int r = 0; r < roster.standing; r++) {
            int w = roster.board[r];
            if (roster.stable[w] == stable) {
                sum += roster.wins[w];
                members++;
            }
        }
        return members == 0 ? log.found(NOUGHT) : sum / members;
    }

    public int sheet(int s, int n) {
        if (!isSheet(s) || n > MOST_BYTES) {
            return BAD;
        }
        if (n < 0) {
            return log.found(SIZE);
        }
        sheets.blank(s, n);
        return n;
    }

    public int lay(int s, int i, int v) {
        if (!isSheet(s)) {
            return BAD;
        }
        if (sheets.isMissing(s)) {
            return log.found(NOTHING);
        }
        if (i < 0 || i >= sheets.size[s]) {
            return log.found(BEYOND);
        }
        return 1000 + sheets.replace(s, i, (byte) v);
    }

    public int tear(int s) {
        if (!isSheet(s)) {
            return BAD;
        }
        if (sheets.isMissing(s)) {
            return log.found(NOTHING);
        }
        sheets.size[s] = Sheets.MISSING;
        return 1;
    }

    public int copy(int s, int i, int to, int j, int n) {
        if (!isSheet(s) || !isSheet(to)) {
            return BAD;
        }
        if (sheets.isMissing(s) || sheets.isMissing(to)) {
            return log.found(NOTHING);
        }
        if (!sheets.holds(s, i, n) || !sheets.holds(to, j, n)) {
            return log.found(BEYOND);
        }
        System.arraycopy(sheets.bytes[s], i, sheets.bytes[to], j, n);
        return 1;
    }

    public int prices(int s) {
        if (s != NONE && !isSheet(s)) {
            return BAD;
        }
        if (s != NONE && sheets.isMissing(s)) {
            return log.found(NOTHING);
        }
        int former = sheets.teller;
        sheets.teller = s;
        return former;
    }

    public int price(int n) {
        if (n < 0 || n > MOST_DAYS) {
            return BAD;
        }
        return sheets.priceOf(n);
    }

    // ---- 2 the meet

    public int meet(int d) {
        if (d < 1 || d > MOST_DAYS) {
            return BAD;
        }
        if (tourney.going) {
            return STATE;
        }
        tourney.begin(d);
        roster.clearScores();
        titleRow.clear();
        writing.fresh = false;
        return roster.standing;
    }

    public int absent(int w, boolean is) {
        int refusal = refusalOf(w);
        if (refusal != 0) {
            return refusal;
        }
        boolean was = roster.away[w];
        roster.away[w] = is;
        return was ? 1 : 0;
    }

    public int barred(int a, int b) {
        if (!roster.knows(a) || !roster.knows(b) || a == b) {
            return BAD;
        }
        if (roster.gone[a] || roster.gone[b]) {
            return log.found(NOTHING);
        }
        return barsBetween(a, b);
    }

    public int draw() {
        if (!tourney.going || tourney.lacking > 0 || tourney.drawn >= tourney.days) {
            return STATE;
        }
        gatherThosePresent();
        setCharges();
        tourney.cost = fitting.solve();
        return enterDay();
    }

    public int cost() {
        return tourney.cost;
    }

    public int result(int bout, boolean upper) {
        if (!tourney.knows(bout)) {
            return BAD;
        }
        if (tourney.winner[bout] != NONE) {
            return STATE;
        }
        int won = upper ? tourney.upper[bout] : tourney.lower[bout];
        tourney.winner[bout] = won;
        tourney.lacking--;
        roster.wins[won]++;
        roster.losses[tourney.loserOf(bout)]++;
        return 1;
    }

    public int bout(int bout, int what) {
        if (!tourney.knows(bout) || what < 0 || what >= Tourney.FACTS) {
            return BAD;
        }
        return tourney.fact(bout, what);
    }

    public int sat() {
        return tourney.satOut;
    }

    // ---- 3 the board anew

    public int line(int low, int high, int up) {
        if (low > high || up < -MOST_STEPS || up > MOST_STEPS) {
            return BAD;
        }
        if (custom.lines >= MOST_LINES) {
            return FULL;
        }
        return custom.add(low, high, up);
    }

    public int anew() {
        if (!tourney.isComplete() || titleRow.goesOn()) {
            return STATE;
        }
        writing.recall(roster, custom.lines);
        for (int r = 0; r < writing.standing; r++) {
            moveByCustom(writing.formerBoard[r]);
        }
        writing.arrange();
        for (int r = 0; r < writing.standing; r++) {
            int w = writing.order[r];
            writing.after[w] = r;
            roster.place(w, r);
        }
        tourney.going = false;
        return writing.differing(writing.before);
    }

    public int why(int w) {
        int refusal = refusalOf(w);
        return refusal != 0 ? refusal : writing.byLine[w];
    }

    public int passed(int a, int b) {
        if (!roster.knows(a) || !roster.knows(b)) {
            return BAD;
        }
        if (roster.gone[a] || roster.gone[b]) {
            return log.found(NOTHING);
        }
        return writing.overtook(a, b) ? 1 : 0;
    }

    public int beside(int bout) {
        if (!tourney.knows(bout)) {
            return BAD;
        }
        if (!writing.fresh) {
            return STATE;
        }
        for (int r = 0; r < writing.standing; r++) {
            int w = writing.formerBoard[r];
            int byLine = custom.lineFor(scoreWithout(w, bout), writing.linesThen);
            writing.aimAt(w, custom.steps(byLine, roster.kind[w]));
        }
        writing.arrange();
        for (int r = 0; r < writing.standing; r++) {
            writing.aside[writing.order[r]] = r;
        }
        return writing.differing(writing.aside);
    }

    public int rungBeside(int w) {
        int refusal = refusalOf(w);
        return refusal != 0 ? refusal : writing.aside[w];
    }

    // ---- 4 titles

    public int leaders() {
        if (!tourney.going) {
            return STATE;
        }
        int most = roster.mostWins();
        int bits = 0;
        for (int r = 0; r < roster.standing; r++) {
            int w = roster.board[r];
            if (roster.wins[w] == most) {
                bits |= 1 << w;
            }
        }
        return bits;
    }

    public int playOff() {
        if (!tourney.isComplete() || titleRow.begun || roster.standing == 0) {
            return STATE;
        }
        titleRow.begun = true;
        int most = roster.mostWins();
        for (int r = 0; r < roster.standing; r++) {
            int w = roster.board[r];
            if (roster.wins[w] == most) {
                titleRow.append(w);
            }
        }
        crownIfAlone();
        return titleRow.left;
    }

    public int meets(boolean second) {
        if (!titleRow.goesOn()) {
            return NONE;
        }
        return titleRow.row[second ? 1 : 0];
    }

    public int wins(boolean first) {
        if (!titleRow.goesOn()) {
            return STATE;
        }
        titleRow.settle(first);
        crownIfAlone();
        return titleRow.left;
    }

    public int champion() {
        return titleRow.holder;
    }

    // ---- 5 what is told

    public int count(int what) {
        return tally(what);
    }

    public int finding() {
        return log.latest;
    }

    public int findings(int f) {
        if (f < NOTHING || f > SIZE) {
            return BAD;
        }
        return log.times[f];
    }

    public long digest() {
        long h = 17;
        for (int w = 0; w < roster.ever; w++) {
            h = withWrestler(h, w);
        }
        for (int r = 0; r < roster.standing; r++) {
            h = 31 * h + roster.board[r];
        }
        for (int b = 0; b < tourney.bouts; b++) {
            for (int what = 0; what < Tourney.FACTS; what++) {
                h = 31 * h + tourney.fact(b, what);
            }
        }
        for (int what = 2; what <= 7; what++) {
            h = 31 * h + tally(what);
        }
        h = 31 * h + titleRow.holder;
        for (int s = 0; s < SHEET_COUNT; s++) {
            h = withSheet(h, s);
        }
        return h;
    }

    // ---- helpers

    private static boolean isKind(int kind) {
        return kind >= PLAIN && kind <= YOUNG;
    }

    private static boolean isGroup(int number) {
        return number >= 0 && number < GROUPS;
    }

    private static boolean isSheet(int s) {
        return s >= 0 && s < SHEET_COUNT;
    }

    /** BAD or FINDING for a number that is no wrestler who is there, otherwise 0. */
    private int refusalOf(int w) {
        if (!roster.knows(w)) {
            return BAD;
        }
        return roster.gone[w] ? log.found(NOTHING) : 0;
    }

    private int barsBetween(int a, int b) {
        int bars = 0;
        if (roster.stable[a] == roster.stable[b]) {
            bars |= SAME_STABLE;
        }
        if (roster.kin[a] != NONE && roster.kin[a] == roster.kin[b]) {
            bars |= SAME_KIN;
        }
        if (tourney.going && tourney.haveMet(a, b)) {
            bars |= HAVE_MET;
        }
        return bars;
    }

    private void gatherThosePresent() {
        fitting.size = 0;
        for (int r = 0; r < roster.standing; r++) {
            int w = roster.board[r];
            if (!roster.away[w]) {
                fitting.who[fitting.size] = w;
                fitting.size++;
            }
        }
    }

    private void setCharges() {
        for (int p = 0; p < fitting.size; p++) {
            for (int q = p + 1; q < fitting.size; q++) {
                fitting.charge[p][q] = chargeFor(fitting.who[p], fitting.who[q]);
            }
        }
    }

    private int chargeFor(int upper, int lower) {
        if (barsBetween(upper, lower) != 0) {
            return Fitting.FORBIDDEN;
        }
        int apart = Math.abs(roster.wins[upper] - roster.wins[lower]);
        return sheets.priceOf(apart) + roster.rungOf[lower] - roster.rungOf[upper];
    }

    /** Takes the fitting over as the next day, and answers how many bouts that day has. */
    private int enterDay() {
        int bouts = 0;
        tourney.satOut = 0;
        for (int p = 0; p < fitting.size; p++) {
            int mate = fitting.mate[p];
            if (mate == NONE) {
                tourney.satOut |= 1 << fitting.who[p];
            } else if (mate > p) {
                tourney.addBout(fitting.who[p], fitting.who[mate]);
                bouts++;
            }
        }
        for (int r = 0; r < roster.standing; r++) {
            int w = roster.board[r];
            if (roster.away[w]) {
                roster.losses[w]++;
            }
        }
        tourney.drawn++;
        return bouts;
    }

    private void moveByCustom(int w) {
        int byLine = custom.lineFor(roster.wins[w] - roster.losses[w], writing.linesThen);
        int steps = custom.steps(byLine, roster.kind[w]);
        writing.byLine[w] = byLine;
        writing.aimAt(w, steps);
        int more = steps - custom.steps(byLine, PLAIN);
        if (roster.kind[w] == HELD && more > 0) {
            roster.marks[w]++;
        } else if (roster.kind[w] == YOUNG) {
            roster.marks[w] += more;
        }
    }

    private int scoreWithout(int w, int bout) {
        int score = roster.wins[w] - roster.losses[w];
        if (w == tourney.winner[bout]) {
            return score - 1;
        }
        return w == tourney.loserOf(bout) ? score + 1 : score;
    }

    private void crownIfAlone() {
        if (titleRow.left == 1) {
            titleRow.holder = titleRow.row[0];
            roster.titles[titleRow.holder]++;
        }
    }

    private int tally(int what) {
        switch (what) {
            case 0: return roster.ever;
            case 1: return roster.standing;
            case 2: return tourney.drawn;
            case 3: return tourney.going ? tourney.days : 0;
            case 4: return tourney.bouts;
            case 5: return tourney.lacking;
            case 6: return custom.lines;
            case 7: return writing.times;
            default: return BAD;
        }
    }

    private long withWrestler(long h, int w) {
        if (roster.gone[w]) {
            return 31 * h - 1;
        }
        long sum = h;
        for (int what = 0; what < Roster.FACTS; what++) {
            sum = 31 * sum + roster.fact(w, what);
        }
        return sum;
    }

    private long withSheet(long h, int s) {
        long sum = 31 * h + sheets.size[s];
        for (int i = 0; i < sheets.size[s]; i++) {
            sum = 31 * sum + sheets.bytes[s][i];
        }
        return sum;
    }

    /** The findings that were answered. */
    private static final class Log {
        final int[] times = new int[SIZE + 1];
        int latest;

        int found(int what) {
            latest = what;
            times[what]++;
            return FINDING;
        }
    }

    /** The wrestlers by number, and the rungs on which they stand. */
    private static final class Roster {
        static final int FACTS = 7;

        final int[] kind = new int[MOST_WRESTLERS];
        final int[] stable = new int[MOST_WRESTLERS];
        final int[] kin = new int[MOST_WRESTLERS];
        final int[] rungOf = new int[MOST_WRESTLERS];
        final int[] wins = new int[MOST_WRESTLERS];
        final int[] losses = new int[MOST_WRESTLERS];
        final int[] titles = new int[MOST_WRESTLERS];
        final int[] marks = new int[MOST_WRESTLERS];
        final boolean[] gone = new boolean[MOST_WRESTLERS];
        final boolean[] away = new boolean[MOST_WRESTLERS];
        final int[] board = new int[MOST_WRESTLERS];
        int ever;
        int standing;

        boolean knows(int w) {
            return w >= 0 && w < ever;
        }

        boolean isOf(int w, int asked) {
            return asked == PLAIN || kind[w] == asked;
        }

        int add(int newKind, int newStable, int newKin) {
            int w = ever;
            kind[w] = newKind;
            stable[w] = newStable;
            kin[w] = newKin;
            place(w, standing);
            ever++;
            standing++;
            return w;
        }

        int remove(int w) {
            int rung = rungOf[w];
            gone[w] = true;
            standing--;
            for (int r = rung; r < standing; r++) {
                place(board[r + 1], r);
            }
            return rung;
        }

        void place(int w, int rung) {
            board[rung] = w;
            rungOf[w] = rung;
        }

        void clearScores() {
            Arrays.fill(wins, 0);
            Arrays.fill(losses, 0);
        }

        int mostWins() {
            int most = 0;
            for (int r = 0; r < standing; r++) {
                most = Math.max(most, wins[board[r]]);
            }
            return most;
        }

        int fact(int w, int what) {
            switch (what) {
                case 0: return kind[w];
                case 1: return stable[w];
                case 2: return kin[w];
                case 3: return rungOf[w];
                case 4: return wins[w];
                case 5: return losses[w];
                default: return titles[w];
            }
        }
    }

    /** The sheets, and which of them tells the prices. */
    private static final class Sheets {
        static final int MISSING = -1;

        final byte[][] bytes = new byte[SHEET_COUNT][MOST_BYTES];
        final int[] size = new int[SHEET_COUNT];
        int teller = NONE;

        Sheets() {
            Arrays.fill(size, MISSING);
        }

        boolean isMissing(int s) {
            return size[s] == MISSING;
        }

        void blank(int s, int n) {
            Arrays.fill(bytes[s], (byte) 0);
            size[s] = n;
        }

        int replace(int s, int i, byte value) {
            int former = bytes[s][i];
            bytes[s][i] = value;
            return former;
        }

        /** The order of the tests keeps the difference from running over. */
        boolean holds(int s, int from, int n) {
            return from >= 0 && n >= 0 && n <= size[s] && from <= size[s] - n;
        }

        int priceOf(int apart) {
            if (teller == NONE || isMissing(teller)) {
                return apart * apart * 4;
            }
            if (size[teller] == 0) {
                return 0;
            }
            return Math.max(0, bytes[teller][Math.min(apart, size[teller] - 1)]);
        }
    }

    /** The meet that goes on, or the latest one, with its bouts. */
    private static final class Tourney {
        static final int FACTS = 4;

        final int[] day = new int[MOST_BOUTS];
        final int[] upper = new int[MOST_BOUTS];
        final int[] lower = new int[MOST_BOUTS];
        final int[] winner = new int[MOST_BOUTS];
        final int[] metBits = new int[MOST_WRESTLERS];
        boolean going;
        int days;
        int drawn;
        int bouts;
        int lacking;
        int cost;
        int satOut;

        /** Cost and who sat out stay: they are of the latest day, whichever meet it was in. */
        void begin(int newDays) {
            going = true;
            days = newDays;
            drawn = 0;
            bouts = 0;
            lacking = 0;
            Arrays.fill(metBits, 0);
        }

        boolean isComplete() {
            return going && drawn == days && lacking == 0;
        }

        boolean knows(int number) {
            return number >= 0 && number < bouts;
        }

        boolean haveMet(int a, int b) {
            return (metBits[a] & 1 << b) != 0;
        }

        void addBout(int above, int below) {
            day[bouts] = drawn;
            upper[bouts] = above;
            lower[bouts] = below;
            winner[bouts] = NONE;
            bouts++;
            lacking++;
            metBits[above] |= 1 << below;
            metBits[below] |= 1 << above;
        }

        int loserOf(int number) {
            return winner[number] == upper[number] ? lower[number] : upper[number];
        }

        int fact(int number, int what) {
            switch (what) {
                case 0: return day[number];
                case 1: return upper[number];
                case 2: return lower[number];
                default: return winner[number];
            }
        }
    }

    /**
     * The cheapest fitting of those present. They have places 0, 1, .. from the uppermost
     * on; in a set of places the uppermost has the highest bit, so that a set without
     * the first few places is a small number.
     */
    private static final class Fitting {
        static final int FORBIDDEN = -1;
        private static final int SITTING_OUT = 10000;
        private static final int NO_COST_YET = 1000000;
        /**
         * Sets below this are remembered. Of 16 places only sets with one of the first three
         * left are not, and few ways lead to those.
         */
        private static final int REMEMBERED = 8192;

        final int[] who = new int[MOST_WRESTLERS];
        final int[] mate = new int[MOST_WRESTLERS];
        final int[][] charge = new int[MOST_WRESTLERS][MOST_WRESTLERS];
        /** The least cost for a set, and 1 more; 0: not worked out. */
        private final int[] leastPlusOne = new int[REMEMBERED];
        int size;

        /** Sets the mate of each place (NONE: it sits out), and answers the cost. */
        int solve() {
            Arrays.fill(leastPlusOne, 0, Math.min(REMEMBERED, 1 << size), 0);
            Arrays.fill(mate, NONE);
            int left = (1 << size) - 1;
            int whole = leastCost(this, 0, left);
            int owed = whole;
            for (int p = 0; p < size; p++) {
                if ((left & bitOf(p)) != 0) {
                    left ^= bitOf(p);
                    int q = uppermostMate(p, left, owed);
                    if (q == NONE) {
                        owed -= SITTING_OUT;
                    } else {
                        left ^= bitOf(q);
                        owed -= charge[p][q];
                        mate[p] = q;
                        mate[q] = p;
                    }
                }
            }
            return whole;
        }

        private int bitOf(int place) {
            return 1 << (size - 1 - place);
        }

        /** The first mate for p of those left with which the cost is no more than owed. */
        private int uppermostMate(int p, int left, int owed) {
            for (int q = p + 1; q < size; q++) {
                int price = charge[p][q];
                if ((left & bitOf(q)) != 0 && price != FORBIDDEN && price <= owed
                        && price + leastCost(this, p + 1, left ^ bitOf(q)) == owed) {
                    return q;
                }
            }
            return NONE;
        }

        /** The least cost for a set of places none of which is above from. */
        private static int leastCost(Fitting f, int from, int left) {
            if (left == 0 || from >= f.size) {
                return 0;
            }
            if (left < REMEMBERED && f.leastPlusOne[left] != 0) {
                return f.leastPlusOne[left] - 1;
            }
            int p = from;
            int bit = f.bitOf(from);
            while (p < f.size - 1 && (left & bit) == 0) {
                p++;
                bit >>= 1;
            }
            int rest = left & ~bit;
            int best = NO_COST_YET;
            for (int q = p + 1; q < f.size; q++) {
                bit >>= 1;
                int price = f.charge[p][q];
                if ((rest & bit) != 0 && price != FORBIDDEN && price < best) {
                    best = Math.min(best, price + leastCost(f, p + 1, rest ^ bit));
                }
            }
            if (best > SITTING_OUT) {
                best = Math.min(best, SITTING_OUT + leastCost(f, p + 1, rest));
            }
            if (left < REMEMBERED) {
                f.leastPlusOne[left] = best + 1;
            }
            return best;
        }
    }

    /** The lines of the custom. */
    private static final class Custom {
        final int[] low = new int[MOST_LINES];
        final int[] high = new int[MOST_LINES];
        final int[] up = new int[MOST_LINES];
        int lines;

        int add(int newLow, int newHigh, int newUp) {
            low[lines] = newLow;
            high[lines] = newHigh;
            up[lines] = newUp;
            lines++;
            return lines - 1;
        }

        /** The first line of so many that fits a score; NONE. */
        int lineFor(int score, int ofLines) {
            for (int i = 0; i < ofLines; i++) {
                if (low[i] <= score && score <= high[i]) {
                    return i;
                }
            }
            return NONE;
        }

        /** How many rungs one of a kind goes up by a line (NONE: by none). */
        int steps(int byLine, int kind) {
            if (byLine == NONE) {
                return 0;
            }
            int steps = up[byLine];
            if (kind == HELD) {
                return Math.max(steps, -1);
            }
            return kind == YOUNG && steps > 0 ? 2 * steps : steps;
        }
    }

    /** How the board was written latest, and how it would be beside. */
    private static final class Writing {
        final int[] formerBoard = new int[MOST_WRESTLERS];
        final int[] before = new int[MOST_WRESTLERS];
        final int[] after = new int[MOST_WRESTLERS];
        final int[] byLine = new int[MOST_WRESTLERS];
        final int[] aside = new int[MOST_WRESTLERS];
        final int[] order = new int[MOST_WRESTLERS];
        /** Twice the aims, as halves are in them. */
        private final int[] aims = new int[MOST_WRESTLERS];
        int standing;
        int linesThen;
        int times;
        /** Whether no meet began, nobody left and nobody came since. */
        boolean fresh;

        Writing() {
            Arrays.fill(before, NONE);
            Arrays.fill(after, NONE);
            Arrays.fill(byLine, NONE);
            Arrays.fill(aside, NONE);
        }

        void recall(Roster roster, int lines) {
            standing = roster.standing;
            linesThen = lines;
            for (int r = 0; r < standing; r++) {
                formerBoard[r] = roster.board[r];
                before[roster.board[r]] = r;
            }
            times++;
            fresh = true;
        }

        void aimAt(int w, int steps) {
            int half = steps > 0 ? 1 : steps < 0 ? -1 : 0;
            aims[w] = 2 * (before[w] - steps) - half;
        }

        /** Sorts by aims; those with like aims stay as they stood. */
        void arrange() {
            for (int r = 0; r < standing; r++) {
                int w = formerBoard[r];
                int slot = r;
                while (slot > 0 && aims[order[slot - 1]] > aims[w]) {
                    order[slot] = order[slot - 1];
                    slot--;
                }
                order[slot] = w;
            }
        }

        /** How many were written on another rung than these are. */
        int differing(int[] rungs) {
            int number = 0;
            for (int r = 0; r < standing; r++) {
                int w = formerBoard[r];
                if (rungs[w] != after[w]) {
                    number++;
                }
            }
            return number;
        }

        boolean overtook(int a, int b) {
            return before[a] != NONE && before[b] != NONE
                    && before[a] > before[b] && after[a] < after[b];
        }
    }

    /** The row of a play-off, and who holds the title. */
    private static final class TitleRow {
        final int[] row = new int[MOST_WRESTLERS];
        int left;
        boolean begun;
        int holder = NONE;

        void clear() {
            left = 0;
            begun = false;
        }

        boolean goesOn() {
            return left > 1;
        }

        void append(int w) {
            row[left] = w;
            left++;
        }

        void settle(boolean first) {
            int won = first ? row[0] : row[1];
            for (int i = 2; i < left; i++) {
                row[i - 2] = row[i];
            }
            row[left - 2] = won;
            left--;
        }
    }
}
