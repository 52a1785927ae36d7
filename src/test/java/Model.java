import java.util.ArrayList;
import java.util.Arrays;
import java.util.Comparator;
import java.util.HashMap;
import java.util.List;
import java.util.Map;

/**
 * The document told a second time, as plainly as can be and with no care for speed:
 * what RankBoard answers is compared with what this answers.
 */
final class Model {
    static final int BAD = -1, FULL = -2, FINDING = -3, STATE = -4, NONE = -9;

    /** A call that is refused leaves by this. */
    private static final class Refused extends RuntimeException {
        private static final long serialVersionUID = 1L;
        final int answer;

        Refused(int answer) {
            super(null, null, false, false);
            this.answer = answer;
        }
    }

    private static final class W {
        int kind, stable, kin, wins, losses, titles, mark;
        boolean left, absent;
        int why = NONE;
        Integer before, after;
        int beside = NONE;
    }

    private static final class Bout {
        int day;
        W upper, lower, won;
    }

    private static final class Line {
        int low, high, up;
    }

    private final List<W> ever = new ArrayList<>();
    private List<W> board = new ArrayList<>();
    private final byte[][] sheets = new byte[4][];
    private int teller = NONE;
    private final List<Line> lines = new ArrayList<>();
    private boolean meet;
    private int days, drawn, cost, sat, written;
    private final List<Bout> bouts = new ArrayList<>();
    private boolean playedOff;
    private final List<W> row = new ArrayList<>();
    private W champion;
    private int latestFinding;
    private final int[] times = new int[6];

    private boolean canBeside;
    private List<W> boardBefore = new ArrayList<>();
    private int linesBefore;

    private void bad(boolean is) {
        if (is) {
            throw new Refused(BAD);
        }
    }

    private void full(boolean is) {
        if (is) {
            throw new Refused(FULL);
        }
    }

    private void state(boolean is) {
        if (is) {
            throw new Refused(STATE);
        }
    }

    private void finding(int which, boolean is) {
        if (is) {
            latestFinding = which;
            times[which]++;
            throw new Refused(FINDING);
        }
    }

    private W of(int w) {
        bad(w < 0 || w >= ever.size());
        return ever.get(w);
    }

    private W there(int w) {
        W x = of(w);
        finding(1, x.left);
        return x;
    }

    private int numberOf(W x) {
        return x == null ? NONE : ever.indexOf(x);
    }

    private boolean lacks() {
        return bouts.stream().anyMatch(b -> b.won == null);
    }

    /** Answers a call by its name; boolean arguments are 1 or 0. */
    long call(String name, int... a) {
        try {
            return answer(name, a);
        } catch (Refused r) {
            return r.answer;
        }
    }

    private long answer(String name, int[] a) {
        switch (name) {
            case "wrestler": return wrestler(a[0], a[1], a[2]);
            case "leave": return leave(a[0]);
            case "told": return told(a[0], a[1]);
            case "is": bad(a[1] < 0 || a[1] > 2); return a[1] == 0 | there(a[0]).kind == a[1] ? 1 : 0;
            case "on": return a[0] < 0 || a[0] >= board.size() ? NONE : numberOf(board.get(a[0]));
            case "mark": return mark(a[0], a[1]);
            case "mean": return mean(a[0]);
            case "sheet": return sheet(a[0], a[1]);
            case "lay": return lay(a[0], a[1], a[2]);
            case "tear": sheetAt(a[0]); sheets[a[0]] = null; return 1;
            case "copy": return copy(a[0], a[1], a[2], a[3], a[4]);
            case "prices": return prices(a[0]);
            case "price": bad(a[0] < 0 || a[0] > 15); return priceOf(a[0]);
            case "meet": return meet(a[0]);
            case "absent": return absent(a[0], a[1] == 1);
            case "barred": return barred(a[0], a[1]);
            case "draw": return draw();
            case "cost": return cost;
            case "result": return result(a[0], a[1] == 1);
            case "bout": return bout(a[0], a[1]);
            case "sat": return sat;
            case "line": return line(a[0], a[1], a[2]);
            case "anew": return anew();
            case "why": return there(a[0]).why;
            case "passed": return passed(a[0], a[1]);
            case "beside": return beside(a[0]);
            case "rungBeside": return there(a[0]).beside;
            case "leaders": return leaderBits();
            case "playOff": return playOff();
            case "meets": return row.size() < 2 ? NONE : numberOf(row.get(a[0]));
            case "wins": return wins(a[0] == 1);
            case "champion": return numberOf(champion);
            case "count": return count(a[0]);
            case "finding": return latestFinding;
            case "findings": bad(a[0] < 1 || a[0] > 5); return times[a[0]];
            case "digest": return digest();
            default: throw new IllegalArgumentException(name);
        }
    }

    private int wrestler(int kind, int stable, int kin) {
        bad(kind < 0 || kind > 2 || stable < 0 || stable > 7);
        bad(kin != NONE && (kin < 0 || kin > 7));
        full(ever.size() == 16);
        state(meet);
        W x = new W();
        x.kind = kind;
        x.stable = stable;
        x.kin = kin;
        ever.add(x);
        board.add(x);
        canBeside = false;
        return ever.size() - 1;
    }

    private int leave(int w) {
        of(w);
        state(meet);
        W x = there(w);
        int rung = board.indexOf(x);
        board.remove(x);
        x.left = true;
        canBeside = false;
        return rung;
    }

    private int told(int w, int what) {
        bad(what < 0 || what > 6);
        W x = there(w);
        return new int[] {x.kind, x.stable, x.kin, board.indexOf(x), x.wins, x.losses, x.titles}[what];
    }

    private int mark(int w, int kind) {
        bad(kind != 1 && kind != 2);
        W x = there(w);
        finding(3, x.kind != kind);
        return x.mark;
    }

    private int mean(int stable) {
        bad(stable < 0 || stable > 7);
        finding(4, board.stream().noneMatch(x -> x.stable == stable));
        return (int) board.stream().filter(x -> x.stable == stable).mapToInt(x -> x.wins)
                .average().getAsDouble();
    }

    private byte[] sheetAt(int s) {
        bad(s < 0 || s > 3);
        finding(1, sheets[s] == null);
        return sheets[s];
    }

    private int sheet(int s, int n) {
        bad(s < 0 || s > 3 || n > 16);
        finding(5, n < 0);
        sheets[s] = new byte[n];
        return n;
    }

    private int lay(int s, int i, int v) {
        byte[] sheet = sheetAt(s);
        finding(2, i < 0 || i >= sheet.length);
        int was = sheet[i];
        sheet[i] = (byte) v;
        return was + 1000;
    }

    private int copy(int s, int i, int to, int j, int n) {
        bad(s < 0 || s > 3 || to < 0 || to > 3);
        byte[] from = sheetAt(s);
        byte[] onto = sheetAt(to);
        finding(2, i < 0 || j < 0 || n < 0 || (long) i + n > from.length || (long) j + n > onto.length);
        byte[] taken = Arrays.copyOfRange(from, i, i + n);
        for (int k = 0; k < n; k++) {
            onto[j + k] = taken[k];
        }
        return 1;
    }

    private int prices(int s) {
        if (s != NONE) {
            sheetAt(s);
        }
        int was = teller;
        teller = s;
        return was;
    }

    private int priceOf(int n) {
        byte[] sheet = teller == NONE ? null : sheets[teller];
        if (sheet == null) {
            return 4 * n * n;
        }
        if (sheet.length == 0) {
            return 0;
        }
        int value = n < sheet.length ? sheet[n] : sheet[sheet.length - 1];
        return value < 0 ? 0 : value;
    }

    private int meet(int d) {
        bad(d < 1 || d > 15);
        state(meet);
        meet = true;
        days = d;
        drawn = 0;
        bouts.clear();
        row.clear();
        playedOff = false;
        canBeside = false;
        for (W x : ever) {
            x.wins = 0;
            x.losses = 0;
        }
        return board.size();
    }

    private int absent(int w, boolean is) {
        W x = there(w);
        int was = x.absent ? 1 : 0;
        x.absent = is;
        return was;
    }

    private int bars(W a, W b) {
        int bits = a.stable == b.stable ? 1 : 0;
        bits += a.kin >= 0 && a.kin == b.kin ? 2 : 0;
        boolean met = bouts.stream().anyMatch(x -> x.upper == a && x.lower == b || x.upper == b && x.lower == a);
        return bits + (meet && met ? 4 : 0);
    }

    private int barred(int a, int b) {
        bad(a == b);
        W x = of(a);
        W y = of(b);
        finding(1, x.left || y.left);
        return bars(x, y);
    }

    private int bestCost;
    private Map<W, W> bestMates;

    /** Tries every fitting, those that go ahead by the rule first, and keeps the first cheapest. */
    private void tryAll(List<W> left, int paid, Map<W, W> mates) {
        if (bestMates != null && paid >= bestCost) {
            return;
        }
        if (left.isEmpty()) {
            bestCost = paid;
            bestMates = new HashMap<>(mates);
            return;
        }
        W first = left.get(0);
        for (int i = 1; i < left.size(); i++) {
            W other = left.get(i);
            if (bars(first, other) == 0) {
                List<W> rest = new ArrayList<>(left);
                rest.remove(other);
                rest.remove(first);
                mates.put(first, other);
                tryAll(rest, paid + priceOf(Math.abs(first.wins - other.wins))
                        + Math.abs(board.indexOf(first) - board.indexOf(other)), mates);
                mates.remove(first);
            }
        }
        tryAll(left.subList(1, left.size()), paid + 10000, mates);
    }

    private int draw() {
        state(!meet || lacks() || drawn == days);
        List<W> there = new ArrayList<>(board);
        there.removeIf(x -> x.absent);
        bestMates = null;
        tryAll(there, 0, new HashMap<>());
        cost = bestCost;
        sat = 0;
        int number = 0;
        for (W x : there) {
            W mate = bestMates.get(x);
            if (mate != null) {
                Bout b = new Bout();
                b.day = drawn;
                b.upper = x;
                b.lower = mate;
                bouts.add(b);
                number++;
            } else if (!bestMates.containsValue(x)) {
                sat |= 1 << numberOf(x);
            }
        }
        board.stream().filter(x -> x.absent).forEach(x -> x.losses++);
        drawn++;
        return number;
    }

    private int result(int bout, boolean upper) {
        bad(bout < 0 || bout >= bouts.size());
        Bout b = bouts.get(bout);
        state(b.won != null);
        b.won = upper ? b.upper : b.lower;
        (upper ? b.upper : b.lower).wins++;
        (upper ? b.lower : b.upper).losses++;
        return 1;
    }

    private int bout(int bout, int what) {
        bad(bout < 0 || bout >= bouts.size() || what < 0 || what > 3);
        Bout b = bouts.get(bout);
        return new int[] {b.day, numberOf(b.upper), numberOf(b.lower), numberOf(b.won)}[what];
    }

    private int line(int low, int high, int up) {
        bad(low > high || up < -15 || up > 15);
        full(lines.size() == 12);
        Line x = new Line();
        x.low = low;
        x.high = high;
        x.up = up;
        lines.add(x);
        return lines.size() - 1;
    }

    private int lineOf(int score, int among) {
        for (int i = 0; i < among; i++) {
            if (score >= lines.get(i).low && score <= lines.get(i).high) {
                return i;
            }
        }
        return NONE;
    }

    private double aim(int kind, int rung, int line) {
        int up = line == NONE ? 0 : lines.get(line).up;
        if (kind == 1 && up < -1) {
            up = -1;
        }
        if (kind == 2 && up > 0) {
            up = up + up;
        }
        double aim = rung - up;
        if (up > 0) {
            aim -= 0.5;
        }
        if (up < 0) {
            aim += 0.5;
        }
        return aim;
    }

    private List<W> byAims(List<W> was, Map<W, Double> aims) {
        List<W> sorted = new ArrayList<>(was);
        sorted.sort(Comparator.comparing((W x) -> aims.get(x)).thenComparing(x -> was.indexOf(x)));
        return sorted;
    }

    private int anew() {
        state(!meet || drawn < days || lacks() || row.size() > 1);
        Map<W, Double> aims = new HashMap<>();
        for (W x : board) {
            x.why = lineOf(x.wins - x.losses, lines.size());
            x.before = board.indexOf(x);
            aims.put(x, aim(x.kind, x.before, x.why));
            int up = x.why == NONE ? 0 : lines.get(x.why).up;
            if (x.kind == 1 && up < -1) {
                x.mark++;
            }
            if (x.kind == 2 && up > 0) {
                x.mark += up;
            }
        }
        boardBefore = board;
        linesBefore = lines.size();
        board = byAims(boardBefore, aims);
        int changed = 0;
        for (W x : board) {
            x.after = board.indexOf(x);
            changed += x.after.equals(x.before) ? 0 : 1;
        }
        canBeside = true;
        meet = false;
        written++;
        return changed;
    }

    private int passed(int a, int b) {
        W x = of(a);
        W y = of(b);
        finding(1, x.left || y.left);
        if (x.before == null || y.before == null) {
            return 0;
        }
        return x.before > y.before && x.after < y.after ? 1 : 0;
    }

    private int beside(int bout) {
        bad(bout < 0 || bout >= bouts.size());
        state(!canBeside);
        Bout b = bouts.get(bout);
        Map<W, Double> aims = new HashMap<>();
        for (W x : boardBefore) {
            int wins = x.wins - (b.won == x ? 1 : 0);
            int losses = x.losses - (b.won != x && (b.upper == x || b.lower == x) ? 1 : 0);
            aims.put(x, aim(x.kind, boardBefore.indexOf(x), lineOf(wins - losses, linesBefore)));
        }
        List<W> other = byAims(boardBefore, aims);
        int differ = 0;
        for (W x : other) {
            x.beside = other.indexOf(x);
            differ += x.beside == x.after ? 0 : 1;
        }
        return differ;
    }

    private List<W> leaders() {
        int most = board.stream().mapToInt(x -> x.wins).max().orElse(0);
        List<W> found = new ArrayList<>(board);
        found.removeIf(x -> x.wins < most);
        return found;
    }

    private int leaderBits() {
        state(!meet);
        int bits = 0;
        for (W x : leaders()) {
            bits |= 1 << numberOf(x);
        }
        return bits;
    }

    private int playOff() {
        state(!meet || drawn < days || lacks() || playedOff || board.isEmpty());
        playedOff = true;
        row.clear();
        row.addAll(leaders());
        crown();
        return row.size();
    }

    private void crown() {
        if (row.size() == 1) {
            champion = row.get(0);
            champion.titles++;
        }
    }

    private int wins(boolean first) {
        state(row.size() < 2);
        W one = row.remove(0);
        W two = row.remove(0);
        row.add(first ? one : two);
        crown();
        return row.size();
    }

    private int count(int what) {
        bad(what < 0 || what > 7);
        int lack = (int) bouts.stream().filter(b -> b.won == null).count();
        return new int[] {ever.size(), board.size(), drawn, meet ? days : 0, bouts.size(), lack,
            lines.size(), written}[what];
    }

    private long digest() {
        List<Integer> v = new ArrayList<>();
        for (int w = 0; w < ever.size(); w++) {
            if (ever.get(w).left) {
                v.add(-1);
            } else {
                for (int what = 0; what <= 6; what++) {
                    v.add(told(w, what));
                }
            }
        }
        board.forEach(x -> v.add(numberOf(x)));
        for (int b = 0; b < bouts.size(); b++) {
            for (int what = 0; what <= 3; what++) {
                v.add(bout(b, what));
            }
        }
        for (int what = 2; what <= 7; what++) {
            v.add(count(what));
        }
        v.add(numberOf(champion));
        for (byte[] sheet : sheets) {
            v.add(sheet == null ? -1 : sheet.length);
            for (int i = 0; sheet != null && i < sheet.length; i++) {
                v.add((int) sheet[i]);
            }
        }
        long h = 17;
        for (int x : v) {
            h = 31 * h + x;
        }
        return h;
    }
}
