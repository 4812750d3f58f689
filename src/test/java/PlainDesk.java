import java.util.ArrayList;
import java.util.HashSet;
import java.util.List;
import java.util.Set;

/**
 * The document written down a second time, in its most literal form and without a thought of speed, to set AwardDesk
 * against. It shares no code with it.
 */
public final class PlainDesk {
    static final int NONE = -1, BAD = -3, NO = -4, FULL = -5, SPENT = -6, NOTHING = -11, INDEX = -13, SIZE = -14;

    static final class Cell {
        int soil = 1, use, road;
    }

    record Rect(int first, int wide, int high) { }

    static final class Person {
        int kind, home, set = NONE;
        Rect plot;
    }

    record Claim(int who, int what, int proof, int day) { }

    record Objection(int who, int cell, int day) { }

    int wide, high, expense;
    List<Cell> cells = new ArrayList<>();
    List<Person> people = new ArrayList<>();
    List<Claim> claims = new ArrayList<>();
    List<Objection> objections = new ArrayList<>();
    int[] rules = {500, 900, 0, 0, 2};
    Object[] surveys = new Object[3];

    public PlainDesk() {
        land(6, 5);
    }

    // ---- the land

    public int land(int w, int h) {
        if (w < 2 || w > 10 || h < 2 || h > 8) return BAD;
        wide = w;
        high = h;
        expense = 0;
        cells = new ArrayList<>();
        for (int i = 0; i < w * h; i++) cells.add(new Cell());
        people = new ArrayList<>();
        claims = new ArrayList<>();
        objections = new ArrayList<>();
        return w * h;
    }

    private boolean noCell(int c) {
        return c < 0 || c >= cells.size();
    }

    private boolean noOne(int c) {
        return c < 0 || c >= people.size();
    }

    private static boolean noDay(int d) {
        return d < 0 || d > 999;
    }

    public int cell(int c, int what, int v) {
        if (noCell(c) || what < 0 || what > 2 || v < 0) return BAD;
        if (what == 0 && v > 9 || what == 1 && v > 2 || what == 2 && v > 1) return BAD;
        int was = told(c, what);
        if (what == 0) cells.get(c).soil = v;
        if (what == 1) cells.get(c).use = v;
        if (what == 2) cells.get(c).road = v;
        return was;
    }

    public int told(int c, int what) {
        if (noCell(c) || what < 0 || what > 2) return BAD;
        Cell cell = cells.get(c);
        return what == 0 ? cell.soil : what == 1 ? cell.use : cell.road;
    }

    private static boolean noSurvey(int s) {
        return s < 0 || s > 2;
    }

    public int survey(int s, int width, int n) {
        if (noSurvey(s) || width < 0 || width > 2 || n > 80) return BAD;
        if (n < 0) return SIZE;
        surveys[s] = width == 0 ? new byte[n] : width == 1 ? new short[n] : (Object) new int[n];
        return n;
    }

    public int lose(int s) {
        if (noSurvey(s)) return BAD;
        if (surveys[s] == null) return NOTHING;
        int n = java.lang.reflect.Array.getLength(surveys[s]);
        surveys[s] = null;
        return n;
    }

    public int mark(int s, int place, int v) {
        if (noSurvey(s)) return BAD;
        try {
            if (surveys[s] instanceof byte[] b) {
                int was = b[place];
                b[place] = (byte) v;
                return was;
            }
            if (surveys[s] instanceof short[] b) {
                int was = b[place];
                b[place] = (short) v;
                return was;
            }
            if (surveys[s] instanceof int[] b) {
                int was = b[place];
                b[place] = v;
                return was;
            }
            return NOTHING;
        } catch (IndexOutOfBoundsException e) {
            return INDEX;
        }
    }

    public int copy(int from, int place, int to, int at, int many) {
        if (noSurvey(from) || noSurvey(to)) return BAD;
        try {
            System.arraycopy(surveys[from], place, surveys[to], at, many);
            return many;
        } catch (NullPointerException e) {
            return NOTHING;
        } catch (ArrayStoreException e) {
            return NO;
        } catch (IndexOutOfBoundsException e) {
            return INDEX;
        }
    }

    public int read(int s) {
        if (noSurvey(s)) return BAD;
        if (surveys[s] == null) return NOTHING;
        int n = Math.min(java.lang.reflect.Array.getLength(surveys[s]), cells.size());
        for (int i = 0; i < n; i++) {
            int v = java.lang.reflect.Array.getInt(surveys[s], i);
            if (v < 0 || v > 9) return NO;
        }
        for (int i = 0; i < n; i++) cells.get(i).soil = java.lang.reflect.Array.getInt(surveys[s], i);
        return n;
    }

    private boolean areBeside(int a, int b) {
        return Math.abs(a % wide - b % wide) + Math.abs(a / wide - b / wide) == 1;
    }

    private int price(int c) {
        return cells.get(c).road == 1 ? 1 : 100 * cells.get(c).soil + 101;
    }

    public int road(int from, int to) {
        if (noCell(from) || noCell(to) || from == to) return BAD;
        if (cells.get(from).use == 2 || cells.get(to).use == 2) return NO;
        long[] way = new long[cells.size()];
        java.util.Arrays.fill(way, Long.MAX_VALUE / 2);
        way[from] = price(from);
        for (boolean changed = true; changed; ) {
            changed = false;
            for (int a = 0; a < way.length; a++) {
                for (int b = 0; b < way.length; b++) {
                    if (!areBeside(a, b) || cells.get(a).use == 2 || cells.get(b).use == 2) continue;
                    if (way[a] + price(b) < way[b]) {
                        way[b] = way[a] + price(b);
                        changed = true;
                    }
                }
            }
        }
        if (way[to] >= Long.MAX_VALUE / 2) return NO;
        List<Integer> line = new ArrayList<>(List.of(to));
        for (int at = to; at != from; ) {
            int next = NONE;
            for (int c = way.length - 1; c >= 0; c--) {
                if (areBeside(c, at) && cells.get(c).use != 2 && way[c] == way[at] - price(at)) next = c;
            }
            at = next;
            line.add(at);
        }
        int became = 0;
        for (int c : line) {
            if (cells.get(c).road == 0) became++;
            cells.get(c).road = 1;
        }
        expense += 10 * became;
        return became;
    }

    // ---- claims

    public int claimant(int kind, int home) {
        if (kind < 0 || kind > 4 || noCell(home)) return BAD;
        if (people.size() == 8) return FULL;
        Person p = new Person();
        p.kind = kind;
        p.home = home;
        people.add(p);
        return people.size() - 1;
    }

    public int isOf(int c, int kind) {
        if (noOne(c) || kind < 0 || kind > 4) return BAD;
        int own = people.get(c).kind;
        if (kind == 0 || own == kind) return 1;
        return own == 3 && kind == 1 ? 1 : 0;
    }

    public int claim(int c, int what, int proof, int day) {
        if (noOne(c) || proof < 0 || proof > 3 || noDay(day)) return BAD;
        if (noCell(what) && (what < 101 || what > 150)) return BAD;
        if (claims.size() == 40) return FULL;
        claims.add(new Claim(c, what, proof, day));
        return claims.size() - 1;
    }

    public int withdraw() {
        if (claims.isEmpty()) return NO;
        claims.remove(claims.size() - 1);
        return claims.size();
    }

    public int rule(int which, int v) {
        if (which < 0 || which > 4 || v < 0) return BAD;
        if (v > new int[] {999, 999, 50, 1000, 50}[which]) return BAD;
        int was = rules[which];
        rules[which] = v;
        return was;
    }

    public int object(int c, int cell, int day) {
        if (noOne(c) || noCell(cell) || noDay(day)) return BAD;
        if (objections.size() == 20) return FULL;
        objections.add(new Objection(c, cell, day));
        return objections.size() - 1;
    }

    private boolean isPlain(int c) {
        return cells.get(c).use != 2 && cells.get(c).road == 0;
    }

    private List<Claim> counting(int t, int closing) {
        List<Claim> counting = new ArrayList<>();
        for (Claim c : claims) {
            boolean known = !(c.day > t), late = c.day > closing;
            if (known && !late) counting.add(c);
        }
        return counting;
    }

    private Claim holderOf(int cell, int t, int closing) {
        if (!isPlain(cell) || cells.get(cell).use != 1) return null;
        List<Claim> on = new ArrayList<>();
        for (Claim c : counting(t, closing)) {
            if (c.what == cell) on.add(c);
        }
        int proof = on.stream().mapToInt(Claim::proof).max().orElse(NONE);
        on.removeIf(c -> c.proof != proof);
        int day = on.stream().mapToInt(Claim::day).min().orElse(NONE);
        on.removeIf(c -> c.day != day);
        return on.isEmpty() ? null : on.get(0);
    }

    private boolean isUpheld(Objection o, int closing) {
        Claim h = holderOf(o.cell, o.day, closing);
        if (h == null || h.who == o.who) return false;
        for (Claim c : counting(o.day, closing)) {
            if (c.who == o.who && c.what == o.cell && c.proof >= h.proof) return true;
        }
        return false;
    }

    public int upheld(int o) {
        if (o < 0 || o >= objections.size()) return BAD;
        return isUpheld(objections.get(o), rules[0]) ? 1 : 0;
    }

    public int holder(int cell, int day) {
        if (noCell(cell) || noDay(day)) return BAD;
        Claim h = holderOf(cell, day, rules[0]);
        for (int i = 0; i < claims.size(); i++) {
            if (claims.get(i) == h) return i;
        }
        return NONE;
    }

    // ---- worths

    private int theFirst(int kind) {
        for (int i = 0; i < people.size(); i++) {
            if (people.get(i).kind == kind) return i;
        }
        return NONE;
    }

    private int value() {
        int v = 0;
        for (int c = 0; c < cells.size(); c++) v += isPlain(c) ? cells.get(c).soil : 0;
        return v;
    }

    private int soldAs() {
        return Math.min(rules[3], value());
    }

    private int tithe() {
        return theFirst(4) == NONE ? 0 : (value() - soldAs()) * rules[2] / 100;
    }

    private int gates(int who, int t, int closing) {
        int most = 0;
        for (Claim c : counting(t, closing)) {
            if (c.who == who && c.what > 100 && c.proof > 0) most = Math.max(most, c.what - 100);
        }
        return most;
    }

    private int[] weights(int t, int closing) {
        int[] strips = new int[people.size()];
        int common = 0, allGates = 0;
        for (int c = 0; c < cells.size(); c++) {
            int soil = cells.get(c).soil;
            if (isPlain(c) && cells.get(c).use == 0) common += soil;
            Claim h = holderOf(c, t, closing);
            if (h == null) continue;
            Objection first = null;
            for (Objection o : objections) {
                if (first == null && o.cell == c && o.day <= t && isUpheld(o, closing)) first = o;
            }
            if (first == null) {
                strips[h.who] += 60 * soil;
            } else {
                strips[h.who] += 30 * soil;
                strips[first.who] += 30 * soil;
            }
        }
        int[] w = new int[people.size()];
        int lord = theFirst(3);
        for (int i = 0; i < w.length; i++) {
            if (people.get(i).kind == 2 && lord != NONE) {
                w[i] += strips[i] * 2 / 3;
                w[lord] += strips[i] / 3;
            } else {
                w[i] += strips[i];
            }
            allGates += gates(i, t, closing);
        }
        for (int i = 0; i < w.length && allGates > 0; i++) w[i] += 60 * common * gates(i, t, closing) / allGates;
        return w;
    }

    private static int[] part(int whole, int[] by) {
        int[] parts = new int[by.length];
        long all = 0;
        for (int b : by) all += b;
        if (all == 0) return parts;
        int shared = 0;
        List<Integer> order = new ArrayList<>();
        long[] rest = new long[by.length];
        for (int i = 0; i < by.length; i++) {
            parts[i] = (int) ((long) whole * by[i] / all);
            rest[i] = (long) whole * by[i] % all;
            shared += parts[i];
            order.add(i);
        }
        order.sort((a, b) -> Long.compare(rest[b], rest[a]));
        for (int i = 0; i < whole - shared; i++) parts[order.get(i)]++;
        return parts;
    }

    private int[] dues(int t, int closing) {
        int[] dues = part(value() - soldAs() - tithe(), weights(t, closing));
        if (theFirst(4) != NONE) dues[theFirst(4)] += tithe();
        return dues;
    }

    public int sum(int what, int day) {
        if (what < 0 || what > 5 || noDay(day)) return BAD;
        int all = 0;
        for (int w : weights(day, rules[0])) all += w;
        return new int[] {value(), soldAs(), tithe(), value() - soldAs() - tithe(), all, expense}[what];
    }

    public int has(int c, int what, int day) {
        if (noOne(c) || what < 0 || what > 4 || noDay(day)) return BAD;
        if (what == 0) return weights(day, rules[0])[c];
        int[] dues = dues(day, rules[0]);
        if (what == 1) return dues[c];
        if (what == 2) return part(expense, dues)[c];
        if (what == 3) return Math.max(0, 3 * (dues(day, 5000)[c] - dues[c]));
        return gates(c, day, rules[0]);
    }

    // ---- plots

    public int allot(int c, int cell, int sizes) {
        if (noOne(c) || noCell(cell)) return BAD;
        for (int w = 1; w <= 10; w++) {
            for (int h = 1; h <= 10; h++) {
                if (11 * w + h != sizes) continue;
                people.get(c).plot = new Rect(cell, w, h);
                return 0;
            }
        }
        return BAD;
    }

    public int take(int c) {
        if (noOne(c)) return BAD;
        int had = people.get(c).plot == null ? 0 : 1;
        people.get(c).plot = null;
        return had;
    }

    /** The cells of a rectangle; beyond the land as NONE. */
    private List<Integer> cellsOf(Rect r) {
        List<Integer> in = new ArrayList<>();
        for (int dy = 0; dy < r.high; dy++) {
            for (int dx = 0; dx < r.wide; dx++) {
                int x = r.first % wide + dx, y = r.first / wide + dy;
                in.add(x < wide && y < high ? y * wide + x : NONE);
            }
        }
        return in;
    }

    private Set<Integer> ahead(int c, Rect[] plots) {
        Set<Integer> cellsAhead = new HashSet<>();
        for (int i = 0; i < c; i++) {
            if (plots[i] != null) cellsAhead.addAll(cellsOf(plots[i]));
        }
        cellsAhead.remove(NONE);
        return cellsAhead;
    }

    private Rect[] plotsNow() {
        return people.stream().map(p -> p.plot).toArray(Rect[]::new);
    }

    private int worth(Rect r) {
        int worth = 0;
        for (int c : cellsOf(r)) worth += c == NONE ? 0 : cells.get(c).soil;
        return worth;
    }

    private int far(int home, Rect r) {
        int far = 10000;
        for (int c : cellsOf(r)) {
            if (c != NONE) far = Math.min(far, Math.abs(c % wide - home % wide) + Math.abs(c / wide - home / wide));
        }
        return far;
    }

    private int fault(int who, Rect r, Rect[] plots, int due) {
        List<Integer> in = cellsOf(r);
        for (int c : in) {
            if (c == NONE || !isPlain(c)) return 1;
        }
        Set<Integer> ahead = ahead(who, plots);
        for (int c : in) {
            if (ahead.contains(c)) return 2;
        }
        if (Math.abs(worth(r) - due) > rules[4]) return 3;
        for (int c : in) {
            for (int other = 0; other < cells.size(); other++) {
                if (areBeside(c, other) && cells.get(other).road == 1) return 0;
            }
        }
        return 4;
    }

    public int good(int c, int day) {
        if (noOne(c) || noDay(day)) return BAD;
        if (people.get(c).plot == null) return NONE;
        return fault(c, people.get(c).plot, plotsNow(), dues(day, rules[0])[c]);
    }

    private int hedgeOf(int who) {
        Rect r = people.get(who).plot;
        List<Integer> in = cellsOf(r);
        Set<Integer> ahead = ahead(who, plotsNow());
        int sides = 0;
        for (int c : in) {
            if (c == NONE) continue;
            for (int other = 0; other < cells.size(); other++) {
                if (!areBeside(c, other) || in.contains(other)) continue;
                if (!ahead.contains(c) && !ahead.contains(other)) sides++;
            }
        }
        return sides;
    }

    public int plot(int c, int what) {
        if (noOne(c) || what < 0 || what > 5) return BAD;
        Person p = people.get(c);
        if (p.plot == null) return NONE;
        return new int[] {p.plot.first, p.plot.wide, p.plot.high, worth(p.plot), far(p.home, p.plot), hedgeOf(c)}[what];
    }

    private int[] drawDues;
    private int triesLeft, bestCost;
    private boolean moves, isSpent;
    private Rect[] best;

    public int draw(int day, int tries, int still) {
        if (noDay(day) || tries < 1 || tries > 20000 || still < 0 || still > 1) return BAD;
        drawDues = dues(day, rules[0]);
        triesLeft = tries;
        bestCost = Integer.MAX_VALUE;
        moves = still == 1;
        isSpent = false;
        best = null;
        drawFrom(0, new Rect[people.size()]);
        if (isSpent) return SPENT;
        if (best == null) return NONE;
        for (int i = 0; i < people.size(); i++) people.get(i).plot = best[i];
        return bestCost;
    }

    private int cost(Rect[] plots) {
        int cost = 0;
        for (int i = 0; i < plots.length; i++) {
            if (plots[i] == null) continue;
            cost += far(people.get(i).home, plots[i]);
            if (moves && !plots[i].equals(people.get(i).plot)) cost += 1000;
        }
        return cost;
    }

    private void drawFrom(int who, Rect[] plots) {
        if (who == people.size()) {
            best = plots.clone();
            bestCost = cost(plots);
            return;
        }
        if (drawDues[who] == 0) {
            drawFrom(who + 1, plots);
            return;
        }
        for (int first = 0; first < cells.size(); first++) {
            for (int w = 1; w <= 10; w++) {
                for (int h = 1; h <= 10; h++) {
                    Rect r = new Rect(first, w, h);
                    if (first % wide + w > wide || first / wide + h > high) continue;
                    if (fault(who, r, plots, drawDues[who]) != 0) continue;
                    plots[who] = r;
                    if (cost(plots) < bestCost) {
                        if (triesLeft == 0) isSpent = true;
                        triesLeft--;
                        if (!isSpent) drawFrom(who + 1, plots);
                    }
                    plots[who] = null;
                    if (isSpent) return;
                }
            }
        }
    }

    public int hedge(int c, int day) {
        if (noOne(c) || day != NONE && noDay(day)) return BAD;
        int was = people.get(c).set;
        people.get(c).set = day;
        return was;
    }

    public int fine(int c, int day) {
        if (noOne(c) || noDay(day)) return BAD;
        Person p = people.get(c);
        if (p.plot == null) return 0;
        int until = p.set == NONE || day < p.set ? day : p.set;
        return until > rules[1] ? hedgeOf(c) * (until - rules[1]) : 0;
    }

    public int count(int what) {
        int late = 0, plots = 0, roads = 0, there = 0;
        for (Claim c : claims) late += c.day > rules[0] ? 1 : 0;
        for (Person p : people) plots += p.plot != null ? 1 : 0;
        for (Cell c : cells) roads += c.road;
        for (Object s : surveys) there += s != null ? 1 : 0;
        int[] all = {people.size(), claims.size(), late, objections.size(), plots, roads, there};
        return what < 0 || what > 6 ? BAD : all[what];
    }
}
