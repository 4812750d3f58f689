import java.util.Arrays;

/**
 * The desk of an award. Each class inside holds one part of what the desk knows;
 * the public methods look at their arguments and hand what is sound on to them.
 */
public final class AwardDesk {
    public static final int NONE = -1, BAD = -3, NO = -4, FULL = -5, SPENT = -6, NOTHING = -11, INDEX = -13, SIZE = -14;

    private static final int MOST_CELLS = 80, MOST_CLAIMANTS = 8, MOST_CLAIMS = 40, MOST_OBJECTIONS = 20;
    private static final int LAST_DAY = 999, MOST_PROOF = 3, MOST_TRIES = 20000;
    private static final int GATES_BASE = 100, MOST_GATES = 50;
    private static final int SOIL = 0, USE = 1, ROAD = 2;
    private static final int COMMON = 0, FIELD = 1, CLOSE = 2;
    private static final int COPY = 2, LORD = 3, RECTOR = 4, FREE = 1;
    private static final int CLOSING = 0, LIMIT = 1, TITHE = 2, SOLD = 3, SLACK = 4;
    private static final int SURVEYS = 3, LONGEST_SIDE = 10, SIDES_BASE = 11;

    private static final int[] MOST_OF_MARK = {9, 2, 1};
    private static final int[] MOST_OF_RULE = {LAST_DAY, LAST_DAY, 50, 1000, 50};

    private final int[] rules = {500, 900, 0, 0, 2};
    private final Ground ground;
    private final RoadMaker roadMaker;
    private final SurveyBook surveys;
    private final Roll roll;
    private final Shares shares;
    private final PlotBook plots;
    private Drawing drawing;

    public AwardDesk() {
        ground = new Ground();
        roadMaker = new RoadMaker(ground);
        surveys = new SurveyBook();
        roll = new Roll(ground);
        shares = new Shares(ground, roll, rules);
        plots = new PlotBook(ground, roll);
        // Its rows are large, so they are made only for a desk that draws.
        drawing = null;
    }

    // ---- the land

    public int land(int wide, int high) {
        if (!isWithin(wide, 2, 10) || !isWithin(high, 2, 8)) return BAD;
        ground.renew(wide, high);
        roll.clear();
        plots.clear();
        return ground.size;
    }

    public int cell(int cell, int what, int v) {
        if (!ground.isCell(cell) || !isMark(what) || !isWithin(v, 0, MOST_OF_MARK[what])) return BAD;
        int was = ground.marks[what][cell];
        ground.marks[what][cell] = v;
        return was;
    }

    public int told(int cell, int what) {
        if (!ground.isCell(cell) || !isMark(what)) return BAD;
        return ground.marks[what][cell];
    }

    public int survey(int s, int width, int n) {
        if (!isSurvey(s) || !isWithin(width, 0, 2) || n > MOST_CELLS) return BAD;
        if (n < 0) return SIZE;
        surveys.begin(s, width, n);
        return n;
    }

    public int lose(int s) {
        if (!isSurvey(s)) return BAD;
        if (surveys.isMissing(s)) return NOTHING;
        int had = surveys.lengths[s];
        surveys.lengths[s] = NONE;
        return had;
    }

    public int mark(int s, int place, int v) {
        if (!isSurvey(s)) return BAD;
        if (surveys.isMissing(s)) return NOTHING;
        if (!surveys.reaches(s, place, 1)) return INDEX;
        int was = surveys.rows[s][place];
        surveys.rows[s][place] = surveys.cut(s, v);
        return was;
    }

    public int copy(int from, int place, int to, int at, int many) {
        if (!isSurvey(from) || !isSurvey(to)) return BAD;
        if (surveys.isMissing(from) || surveys.isMissing(to)) return NOTHING;
        if (surveys.widths[from] != surveys.widths[to]) return NO;
        if (!surveys.reaches(from, place, many) || !surveys.reaches(to, at, many)) return INDEX;
        System.arraycopy(surveys.rows[from], place, surveys.rows[to], at, many);
        return many;
    }

    public int read(int s) {
        if (!isSurvey(s)) return BAD;
        if (surveys.isMissing(s)) return NOTHING;
        int many = Math.min(surveys.lengths[s], ground.size);
        for (int i = 0; i < many; i++) {
            if (!isWithin(surveys.rows[s][i], 0, MOST_OF_MARK[SOIL])) return NO;
        }
        System.arraycopy(surveys.rows[s], 0, ground.marks[SOIL], 0, many);
        return many;
    }

    public int road(int from, int to) {
        if (!ground.isCell(from) || !ground.isCell(to) || from == to) return BAD;
        if (ground.isClose(from) || ground.isClose(to)) return NO;
        return roadMaker.lay(from, to);
    }

    // ---- claims

    public int claimant(int kind, int home) {
        if (!isKind(kind) || !ground.isCell(home)) return BAD;
        if (roll.claimants >= MOST_CLAIMANTS) return FULL;
        return roll.addClaimant(kind, home);
    }

    public int isOf(int claimant, int kind) {
        if (!roll.isClaimant(claimant) || !isKind(kind)) return BAD;
        int own = roll.kinds[claimant];
        boolean is = kind == 0 || kind == own || (kind == FREE && own == LORD);
        return is ? 1 : 0;
    }

    public int claim(int claimant, int what, int proof, int day) {
        boolean isGates = isWithin(what, GATES_BASE + 1, GATES_BASE + MOST_GATES);
        if (!roll.isClaimant(claimant) || !(isGates || ground.isCell(what))) return BAD;
        if (!isWithin(proof, 0, MOST_PROOF) || !isDay(day)) return BAD;
        if (roll.claims >= MOST_CLAIMS) return FULL;
        return roll.addClaim(claimant, what, proof, day);
    }

    public int withdraw() {
        if (roll.claims == 0) return NO;
        roll.claims--;
        return roll.claims;
    }

    public int rule(int which, int v) {
        if (!isWithin(which, 0, SLACK) || !isWithin(v, 0, MOST_OF_RULE[which])) return BAD;
        int was = rules[which];
        rules[which] = v;
        return was;
    }

    public int object(int claimant, int cell, int day) {
        if (!roll.isClaimant(claimant) || !ground.isCell(cell) || !isDay(day)) return BAD;
        if (roll.objections >= MOST_OBJECTIONS) return FULL;
        return roll.addObjection(claimant, cell, day);
    }

    public int upheld(int objection) {
        if (!isWithin(objection, 0, roll.objections - 1)) return BAD;
        return roll.isUpheld(objection, rules[CLOSING]) ? 1 : 0;
    }

    public int holder(int cell, int day) {
        if (!ground.isCell(cell) || !isDay(day)) return BAD;
        return roll.holderAt(cell, day, rules[CLOSING]);
    }

    // ---- worths

    public int sum(int what, int day) {
        if (!isWithin(what, 0, 5) || !isDay(day)) return BAD;
        switch (what) {
            case 0: return shares.value();
            case 1: return shares.soldOf(shares.value());
            case 2: return shares.titheOf(shares.value());
            case 3: return shares.restOf(shares.value());
            case 4:
                shares.weigh(day, rules[CLOSING]);
                return Shares.total(shares.weights, roll.claimants);
            default: return ground.expense;
        }
    }

    public int has(int claimant, int what, int day) {
        if (!roll.isClaimant(claimant) || !isWithin(what, 0, 4) || !isDay(day)) return BAD;
        int closing = rules[CLOSING];
        switch (what) {
            case 0:
                shares.weigh(day, closing);
                return shares.weights[claimant];
            case 1: return shares.dueOf(claimant, day, closing);
            case 2:
                shares.settleRates(day, closing);
                return shares.rates[claimant];
            case 3: return shares.coinOf(claimant, day, closing);
            default: return roll.gatesOf(claimant, day, closing);
        }
    }

    // ---- plots

    public int allot(int claimant, int cell, int sizes) {
        if (!roll.isClaimant(claimant) || !ground.isCell(cell) || sizes < 0) return BAD;
        int wide = sizes / SIDES_BASE, high = sizes % SIDES_BASE;
        if (!isWithin(wide, 1, LONGEST_SIDE) || !isWithin(high, 1, LONGEST_SIDE)) return BAD;
        plots.shapes[claimant] = Shape.of(cell, wide, high);
        return 0;
    }

    public int take(int claimant) {
        if (!roll.isClaimant(claimant)) return BAD;
        int had = plots.isDrawn(claimant) ? 1 : 0;
        plots.shapes[claimant] = NONE;
        return had;
    }

    public int good(int claimant, int day) {
        if (!roll.isClaimant(claimant) || !isDay(day)) return BAD;
        if (!plots.isDrawn(claimant)) return NONE;
        int due = shares.dueOf(claimant, day, rules[CLOSING]);
        return plots.faultOf(claimant, due, rules[SLACK]);
    }

    public int plot(int claimant, int what) {
        if (!roll.isClaimant(claimant) || !isWithin(what, 0, 5)) return BAD;
        if (!plots.isDrawn(claimant)) return NONE;
        int shape = plots.shapes[claimant];
        switch (what) {
            case 0: return Shape.firstOf(shape);
            case 1: return Shape.wideOf(shape);
            case 2: return Shape.highOf(shape);
            case 3: return plots.worthOf(claimant);
            case 4: return ground.stepsTo(roll.homes[claimant], shape);
            default: return plots.hedgeOf(claimant);
        }
    }

    public int draw(int day, int tries, int still) {
        if (!isDay(day) || !isWithin(tries, 1, MOST_TRIES) || !isWithin(still, 0, 1)) return BAD;
        if (drawing == null) drawing = new Drawing(ground, roll, plots);
        shares.settleDues(day, rules[CLOSING]);
        return drawing.run(shares.dues, rules[SLACK], tries, still == 1);
    }

    public int hedge(int claimant, int day) {
        if (!roll.isClaimant(claimant) || !isWithin(day, NONE, LAST_DAY)) return BAD;
        int was = plots.hedgeDays[claimant];
        plots.hedgeDays[claimant] = day;
        return was;
    }

    public int fine(int claimant, int day) {
        if (!roll.isClaimant(claimant) || !isDay(day)) return BAD;
        if (!plots.isDrawn(claimant)) return 0;
        int set = plots.hedgeDays[claimant];
        int until = set == NONE ? day : Math.min(set, day);
        return plots.hedgeOf(claimant) * Math.max(0, until - rules[LIMIT]);
    }

    public int count(int what) {
        switch (what) {
            case 0: return roll.claimants;
            case 1: return roll.claims;
            case 2: return roll.lateClaims(rules[CLOSING]);
            case 3: return roll.objections;
            case 4: return plots.drawnPlots();
            case 5: return ground.roadCells();
            case 6: return surveys.present();
            default: return BAD;
        }
    }

    private static boolean isWithin(int v, int least, int most) {
        return v >= least && v <= most;
    }

    private static boolean isDay(int day) {
        return isWithin(day, 0, LAST_DAY);
    }

    private static boolean isMark(int what) {
        return isWithin(what, SOIL, ROAD);
    }

    private static boolean isKind(int kind) {
        return isWithin(kind, 0, RECTOR);
    }

    private static boolean isSurvey(int s) {
        return isWithin(s, 0, SURVEYS - 1);
    }

    /** A rectangle in one number, so that two of them are the same if the numbers are. */
    private static final class Shape {
        private static final int BITS = 4, MASK = 15;

        static int of(int first, int wide, int high) {
            return (first << (2 * BITS)) | (wide << BITS) | high;
        }

        static int firstOf(int shape) {
            return shape >> (2 * BITS);
        }

        static int wideOf(int shape) {
            return (shape >> BITS) & MASK;
        }

        static int highOf(int shape) {
            return shape & MASK;
        }
    }

    /** The cells of the land, and what was spent on its roads. */
    private static final class Ground {
        private static final int SIDES = 4;

        int wide, high, size, expense;
        final int[][] marks = new int[3][MOST_CELLS];
        // Kept beside the cells, so that no call divides by how wide the land is.
        final int[] columns = new int[MOST_CELLS], rows = new int[MOST_CELLS];

        Ground() {
            renew(6, 5);
        }

        void renew(int newWide, int newHigh) {
            wide = newWide;
            high = newHigh;
            size = newWide * newHigh;
            expense = 0;
            Arrays.fill(marks[SOIL], 1);
            Arrays.fill(marks[USE], COMMON);
            Arrays.fill(marks[ROAD], 0);
            int cell = 0;
            for (int row = 0; row < newHigh; row++) {
                for (int column = 0; column < newWide; column++) {
                    columns[cell] = column;
                    rows[cell] = row;
                    cell++;
                }
            }
        }

        boolean isCell(int cell) {
            return cell >= 0 && cell < size;
        }

        boolean isClose(int cell) {
            return marks[USE][cell] == CLOSE;
        }

        boolean isRoad(int cell) {
            return marks[ROAD][cell] == 1;
        }

        boolean isPlain(int cell) {
            return marks[USE][cell] != CLOSE && marks[ROAD][cell] == 0;
        }

        /** The cell beside another one: above, left, right, below, so that their numbers rise; NONE at the border. */
        int beside(int cell, int side) {
            switch (side) {
                case 0: return rows[cell] > 0 ? cell - wide : NONE;
                case 1: return columns[cell] > 0 ? cell - 1 : NONE;
                case 2: return columns[cell] < wide - 1 ? cell + 1 : NONE;
                default: return rows[cell] < high - 1 ? cell + wide : NONE;
            }
        }

        boolean isBesideRoad(int cell) {
            for (int side = 0; side < SIDES; side++) {
                int next = beside(cell, side);
                if (next != NONE && isRoad(next)) return true;
            }
            return false;
        }

        int roadCells() {
            int many = 0;
            for (int cell = 0; cell < size; cell++) many += marks[ROAD][cell];
            return many;
        }

        boolean isInside(int shape) {
            int first = Shape.firstOf(shape);
            return columns[first] + Shape.wideOf(shape) <= wide && rows[first] + Shape.highOf(shape) <= high;
        }

        boolean isIn(int cell, int shape) {
            int first = Shape.firstOf(shape);
            int right = columns[cell] - columns[first], down = rows[cell] - rows[first];
            return right >= 0 && right < Shape.wideOf(shape) && down >= 0 && down < Shape.highOf(shape);
        }

        /**
         * How far a shape is from a home. A shape's first cell and every home are cells of the land, so the nearest
         * cell of the shape is one too, and there is no shape without a cell within.
         */
        int stepsTo(int home, int shape) {
            int first = Shape.firstOf(shape);
            return gap(columns[home], columns[first], Shape.wideOf(shape))
                + gap(rows[home], rows[first], Shape.highOf(shape));
        }

        private static int gap(int at, int from, int many) {
            if (at < from) return from - at;
            return Math.max(0, at - (from + many - 1));
        }
    }

    /** Finds the way of the least price and makes it road. */
    private static final class RoadMaker {
        private static final int UNREACHED = 1000000000, EXPENSE_OF_CELL = 10;

        private final Ground ground;
        private final int[] reach = new int[MOST_CELLS];
        private final boolean[] settled = new boolean[MOST_CELLS];

        RoadMaker(Ground ground) {
            this.ground = ground;
        }

        int lay(int from, int to) {
            measure(from);
            if (reach[to] == UNREACHED) return NO;
            int laid = 0, cell = to;
            for (int step = 0; step < ground.size && cell != NONE; step++) {
                // The one before is found first: a cell's price falls when it becomes road.
                int before = cell == from ? NONE : cellBefore(cell);
                if (!ground.isRoad(cell)) laid++;
                ground.marks[ROAD][cell] = 1;
                cell = before;
            }
            ground.expense += EXPENSE_OF_CELL * laid;
            return laid;
        }

        private void measure(int from) {
            Arrays.fill(reach, UNREACHED);
            for (int cell = 0; cell < ground.size; cell++) settled[cell] = false;
            reach[from] = price(from);
            for (int round = 0; round < ground.size; round++) {
                int cell = nearestUnsettled();
                if (cell == NONE) return;
                settled[cell] = true;
                for (int side = 0; side < Ground.SIDES; side++) {
                    int next = ground.beside(cell, side);
                    if (next == NONE || settled[next] || ground.isClose(next)) continue;
                    reach[next] = Math.min(reach[next], reach[cell] + price(next));
                }
            }
        }

        private int nearestUnsettled() {
            int nearest = NONE, least = UNREACHED;
            for (int cell = 0; cell < ground.size; cell++) {
                if (!settled[cell] && reach[cell] < least) {
                    nearest = cell;
                    least = reach[cell];
                }
            }
            return nearest;
        }

        private int cellBefore(int cell) {
            int rest = reach[cell] - price(cell);
            for (int side = 0; side < Ground.SIDES; side++) {
                int next = ground.beside(cell, side);
                if (next != NONE && reach[next] == rest) return next;
            }
            return NONE;
        }

        private int price(int cell) {
            return ground.isRoad(cell) ? 1 : 100 * ground.marks[SOIL][cell] + 101;
        }
    }

    /** The surveys: rows that are always there, with a length of NONE for one that is missing. */
    private static final class SurveyBook {
        private static final int BYTES = 0, SHORTS = 1;

        final int[][] rows = new int[SURVEYS][MOST_CELLS];
        final int[] widths = new int[SURVEYS];
        final int[] lengths = {NONE, NONE, NONE};

        void begin(int s, int width, int n) {
            widths[s] = width;
            lengths[s] = n;
            Arrays.fill(rows[s], 0);
        }

        boolean isMissing(int s) {
            return lengths[s] == NONE;
        }

        boolean reaches(int s, int place, int many) {
            return place >= 0 && many >= 0 && many <= lengths[s] && place <= lengths[s] - many;
        }

        int cut(int s, int v) {
            if (widths[s] == BYTES) return (byte) v;
            if (widths[s] == SHORTS) return (short) v;
            return v;
        }

        int present() {
            int many = 0;
            for (int s = 0; s < SURVEYS; s++) {
                if (!isMissing(s)) many++;
            }
            return many;
        }
    }

    /** Claimants, claims and objections, and how they are judged. The closing is told, as coin asks for another one. */
    private static final class Roll {
        private final Ground ground;
        int claimants, claims, objections;
        final int[] kinds = new int[MOST_CLAIMANTS], homes = new int[MOST_CLAIMANTS];
        private final int[] claimBy = new int[MOST_CLAIMS], claimWhat = new int[MOST_CLAIMS];
        private final int[] claimProof = new int[MOST_CLAIMS], claimDay = new int[MOST_CLAIMS];
        private final int[] objectBy = new int[MOST_OBJECTIONS], objectCell = new int[MOST_OBJECTIONS];
        private final int[] objectDay = new int[MOST_OBJECTIONS];

        Roll(Ground ground) {
            this.ground = ground;
        }

        void clear() {
            claimants = 0;
            claims = 0;
            objections = 0;
        }

        boolean isClaimant(int claimant) {
            return claimant >= 0 && claimant < claimants;
        }

        int addClaimant(int kind, int home) {
            kinds[claimants] = kind;
            homes[claimants] = home;
            return claimants++;
        }

        int addClaim(int claimant, int what, int proof, int day) {
            claimBy[claims] = claimant;
            claimWhat[claims] = what;
            claimProof[claims] = proof;
            claimDay[claims] = day;
            return claims++;
        }

        int addObjection(int claimant, int cell, int day) {
            objectBy[objections] = claimant;
            objectCell[objections] = cell;
            objectDay[objections] = day;
            return objections++;
        }

        int firstOfKind(int kind) {
            for (int i = 0; i < claimants; i++) {
                if (kinds[i] == kind) return i;
            }
            return NONE;
        }

        int claimantOf(int claim) {
            return claimBy[claim];
        }

        int lateClaims(int closing) {
            int many = 0;
            for (int i = 0; i < claims; i++) {
                if (claimDay[i] > closing) many++;
            }
            return many;
        }

        int holderAt(int cell, int day, int closing) {
            if (ground.marks[USE][cell] != FIELD || ground.marks[ROAD][cell] == 1) return NONE;
            int best = NONE;
            for (int i = 0; i < claims; i++) {
                if (claimWhat[i] != cell || claimDay[i] > day || claimDay[i] > closing) continue;
                boolean better = best == NONE || claimProof[i] > claimProof[best]
                    || (claimProof[i] == claimProof[best] && claimDay[i] < claimDay[best]);
                if (better) best = i;
            }
            return best;
        }

        int gatesOf(int claimant, int day, int closing) {
            int most = 0;
            for (int i = 0; i < claims; i++) {
                if (claimBy[i] != claimant || claimProof[i] == 0) continue;
                if (claimDay[i] > day || claimDay[i] > closing) continue;
                // The number of a cell is below the base, so that a claim on one never is the most.
                most = Math.max(most, claimWhat[i] - GATES_BASE);
            }
            return most;
        }

        boolean isUpheld(int objection, int closing) {
            int cell = objectCell[objection], day = objectDay[objection], by = objectBy[objection];
            int holder = holderAt(cell, day, closing);
            if (holder == NONE || claimBy[holder] == by) return false;
            for (int i = 0; i < claims; i++) {
                if (claimBy[i] != by || claimWhat[i] != cell || claimDay[i] > day || claimDay[i] > closing) continue;
                if (claimProof[i] >= claimProof[holder]) return true;
            }
            return false;
        }

        /** Who made the first objection on a cell that is upheld and not behind a day; NONE. */
        int upheldObjector(int cell, int day, int closing) {
            for (int i = 0; i < objections; i++) {
                if (objectCell[i] == cell && objectDay[i] <= day && isUpheld(i, closing)) return objectBy[i];
            }
            return NONE;
        }
    }

    /** What everyone has: each call reckons its rows anew, as any call may have changed what they rest on. */
    private static final class Shares {
        private static final int UNIT = 60;

        private final Ground ground;
        private final Roll roll;
        private final int[] rules;
        final int[] weights = new int[MOST_CLAIMANTS], dues = new int[MOST_CLAIMANTS], rates = new int[MOST_CLAIMANTS];
        private final int[] gates = new int[MOST_CLAIMANTS];
        private final long[] rests = new long[MOST_CLAIMANTS];

        Shares(Ground ground, Roll roll, int[] rules) {
            this.ground = ground;
            this.roll = roll;
            this.rules = rules;
        }

        int value() {
            int value = 0;
            for (int cell = 0; cell < ground.size; cell++) {
                if (ground.isPlain(cell)) value += ground.marks[SOIL][cell];
            }
            return value;
        }

        int soldOf(int value) {
            return Math.min(value, rules[SOLD]);
        }

        int titheOf(int value) {
            if (roll.firstOfKind(RECTOR) == NONE) return 0;
            return (value - soldOf(value)) * rules[TITHE] / 100;
        }

        int restOf(int value) {
            return value - soldOf(value) - titheOf(value);
        }

        void weigh(int day, int closing) {
            Arrays.fill(weights, 0);
            int lord = roll.firstOfKind(LORD), common = 0;
            for (int cell = 0; cell < ground.size; cell++) {
                int soil = ground.marks[SOIL][cell];
                if (ground.isPlain(cell) && ground.marks[USE][cell] == COMMON) common += soil;
                int holder = roll.holderAt(cell, day, closing);
                if (holder == NONE) continue;
                int objector = roll.upheldObjector(cell, day, closing), owner = roll.claimantOf(holder);
                giveStrip(owner, UNIT / 2 * soil, lord);
                giveStrip(objector == NONE ? owner : objector, UNIT / 2 * soil, lord);
            }
            giveCommon(UNIT * common, day, closing);
        }

        private void giveStrip(int claimant, int weight, int lord) {
            // A weight of half a strip is 30 times a soil, so that a third of it is whole.
            int third = roll.kinds[claimant] == COPY && lord != NONE ? weight / 3 : 0;
            weights[claimant] += weight - third;
            if (third > 0) weights[lord] += third;
        }

        private void giveCommon(int weight, int day, int closing) {
            for (int i = 0; i < roll.claimants; i++) gates[i] = roll.gatesOf(i, day, closing);
            int all = total(gates, roll.claimants);
            if (all <= 0) return;
            for (int i = 0; i < roll.claimants; i++) weights[i] += weight * gates[i] / all;
        }

        void settleDues(int day, int closing) {
            weigh(day, closing);
            int value = value();
            part(restOf(value), weights, dues);
            int rector = roll.firstOfKind(RECTOR);
            if (rector != NONE) dues[rector] += titheOf(value);
        }

        void settleRates(int day, int closing) {
            settleDues(day, closing);
            part(ground.expense, dues, rates);
        }

        int dueOf(int claimant, int day, int closing) {
            settleDues(day, closing);
            return dues[claimant];
        }

        int coinOf(int claimant, int day, int closing) {
            settleDues(day, closing);
            int due = dues[claimant];
            // With a closing on the last day no claim is late.
            settleDues(day, LAST_DAY);
            return 3 * Math.max(0, dues[claimant] - due);
        }

        private void part(int whole, int[] by, int[] parts) {
            Arrays.fill(parts, 0);
            long all = total(by, roll.claimants);
            if (all <= 0) return;
            int left = whole;
            for (int i = 0; i < roll.claimants; i++) {
                long product = (long) whole * by[i];
                parts[i] = (int) (product / all);
                rests[i] = product % all;
                left -= parts[i];
            }
            for (int round = 0; round < roll.claimants && left > 0; round++) {
                int next = greatestRest();
                parts[next]++;
                rests[next] = -1;
                left--;
            }
        }

        private int greatestRest() {
            int greatest = 0;
            for (int i = 1; i < roll.claimants; i++) {
                if (rests[i] > rests[greatest]) greatest = i;
            }
            return greatest;
        }

        static int total(int[] row, int many) {
            int sum = 0;
            for (int i = 0; i < many && i < row.length; i++) sum += row[i];
            return sum;
        }
    }

    /** The plots as they are allotted or drawn, and the days of their hedges. */
    private static final class PlotBook {
        private final Ground ground;
        private final Roll roll;
        final int[] shapes = new int[MOST_CLAIMANTS], hedgeDays = new int[MOST_CLAIMANTS];

        PlotBook(Ground ground, Roll roll) {
            this.ground = ground;
            this.roll = roll;
            clear();
        }

        void clear() {
            Arrays.fill(shapes, NONE);
            Arrays.fill(hedgeDays, NONE);
        }

        boolean isDrawn(int claimant) {
            return shapes[claimant] != NONE;
        }

        int drawnPlots() {
            int many = 0;
            for (int i = 0; i < roll.claimants; i++) {
                if (isDrawn(i)) many++;
            }
            return many;
        }

        private boolean isInPlotAhead(int cell, int claimant) {
            for (int i = 0; i < claimant; i++) {
                if (isDrawn(i) && ground.isIn(cell, shapes[i])) return true;
            }
            return false;
        }

        /** By which of the four conditions a plot first fails; 0 if by none. */
        int faultOf(int claimant, int due, int slack) {
            int shape = shapes[claimant];
            if (!ground.isInside(shape)) return 1;
            boolean plain = true, free = true, byRoad = false;
            for (int cell = 0; cell < ground.size; cell++) {
                if (!ground.isIn(cell, shape)) continue;
                plain = plain && ground.isPlain(cell);
                free = free && !isInPlotAhead(cell, claimant);
                byRoad = byRoad || ground.isBesideRoad(cell);
            }
            if (!plain) return 1;
            if (!free) return 2;
            if (Math.abs(worthOf(claimant) - due) > slack) return 3;
            return byRoad ? 0 : 4;
        }

        int worthOf(int claimant) {
            int worth = 0;
            for (int cell = 0; cell < ground.size; cell++) {
                if (ground.isIn(cell, shapes[claimant])) worth += ground.marks[SOIL][cell];
            }
            return worth;
        }

        int hedgeOf(int claimant) {
            int sides = 0;
            for (int cell = 0; cell < ground.size; cell++) {
                // All sides of a cell that is in a plot ahead, too, are sides of that plot.
                if (!ground.isIn(cell, shapes[claimant]) || isInPlotAhead(cell, claimant)) continue;
                for (int side = 0; side < Ground.SIDES; side++) {
                    int next = ground.beside(cell, side);
                    if (next == NONE || ground.isIn(next, shapes[claimant])) continue;
                    if (!isInPlotAhead(next, claimant)) sides++;
                }
            }
            return sides;
        }
    }

    /**
     * Draws all plots anew. What does not hang on the other plots is reckoned once, ahead of the search: the SITES
     * (rectangles that are plain and by a road) and, for each TAKER (a claimant with a due), the sites of a fit worth.
     * Cells are kept as bits, 64 in a low word and the rest in a high one, so that one look tells whether two overlap.
     */
    private static final class Drawing {
        // All rectangles of the largest land: (10 * 11 / 2) * (8 * 9 / 2).
        private static final int MOST_SITES = 1980;
        private static final int SITE_BITS = 11, SITE_MASK = 2047;
        private static final int WORD = 64, NO_BEST = 1000000000, MOVED = 1000;

        private final Ground ground;
        private final Roll roll;
        private final PlotBook plots;
        private int sites, takers, tries, most, best;
        private boolean spent;
        private final int[] shapes = new int[MOST_SITES], worths = new int[MOST_SITES];
        private final long[] lows = new long[MOST_SITES], highs = new long[MOST_SITES];
        // A choice is a cost and a site in one number.
        private final int[][] choices = new int[MOST_CLAIMANTS][MOST_SITES];
        private final int[] many = new int[MOST_CLAIMANTS], leastCosts = new int[MOST_CLAIMANTS];
        private final int[] takerOf = new int[MOST_CLAIMANTS];
        private final int[] put = new int[MOST_CLAIMANTS], bestPut = new int[MOST_CLAIMANTS];

        Drawing(Ground ground, Roll roll, PlotBook plots) {
            this.ground = ground;
            this.roll = roll;
            this.plots = plots;
        }

        int run(int[] dues, int slack, int mostTries, boolean still) {
            findSites();
            findTakers(dues, slack, still);
            tries = 0;
            most = mostTries;
            best = NO_BEST;
            spent = false;
            putFrom(0, 0L, 0L, 0);
            if (spent) return SPENT;
            if (best == NO_BEST) return NONE;
            Arrays.fill(plots.shapes, NONE);
            for (int level = 0; level < takers; level++) plots.shapes[takerOf[level]] = shapes[bestPut[level]];
            return best;
        }

        private void findSites() {
            long roadLow = 0, roadHigh = 0;
            for (int cell = 0; cell < ground.size; cell++) {
                if (!ground.isBesideRoad(cell)) continue;
                roadLow |= lowBit(cell);
                roadHigh |= highBit(cell);
            }
            sites = 0;
            for (int first = 0; first < ground.size; first++) {
                int widest = ground.wide - ground.columns[first];
                for (int wide = 1; wide <= widest; wide++) findSitesDown(first, wide, roadLow, roadHigh);
            }
        }

        private void findSitesDown(int first, int wide, long roadLow, long roadHigh) {
            long low = 0, high = 0;
            int worth = 0, highest = ground.high - ground.rows[first];
            for (int tall = 1; tall <= highest; tall++) {
                int left = first + (tall - 1) * ground.wide;
                for (int cell = left; cell < left + wide; cell++) {
                    if (!ground.isPlain(cell)) return;
                    worth += ground.marks[SOIL][cell];
                    low |= lowBit(cell);
                    high |= highBit(cell);
                }
                boolean byRoad = (low & roadLow) != 0 || (high & roadHigh) != 0;
                if (!byRoad || sites >= MOST_SITES) continue;
                shapes[sites] = Shape.of(first, wide, tall);
                worths[sites] = worth;
                lows[sites] = low;
                highs[sites] = high;
                sites++;
            }
        }

        private static long lowBit(int cell) {
            return cell < WORD ? 1L << cell : 0L;
        }

        private static long highBit(int cell) {
            return cell < WORD ? 0L : 1L << (cell - WORD);
        }

        private void findTakers(int[] dues, int slack, boolean still) {
            takers = 0;
            for (int claimant = 0; claimant < roll.claimants; claimant++) {
                if (dues[claimant] <= 0) continue;
                takerOf[takers] = claimant;
                findChoices(takers, dues[claimant], slack, still);
                takers++;
            }
        }

        private void findChoices(int level, int due, int slack, boolean still) {
            int claimant = takerOf[level], home = roll.homes[claimant], had = plots.shapes[claimant];
            many[level] = 0;
            leastCosts[level] = NO_BEST;
            for (int site = 0; site < sites; site++) {
                if (Math.abs(worths[site] - due) > slack) continue;
                int cost = ground.stepsTo(home, shapes[site]);
                if (still && shapes[site] != had) cost += MOVED;
                choices[level][many[level]] = (cost << SITE_BITS) | site;
                many[level]++;
                leastCosts[level] = Math.min(leastCosts[level], cost);
            }
        }

        /** Puts plots for the takers from a level on; the levels are at most as many as the claimants. */
        private void putFrom(int level, long low, long high, int cost) {
            if (level >= takers || level >= MOST_CLAIMANTS) {
                best = cost;
                System.arraycopy(put, 0, bestPut, 0, MOST_CLAIMANTS);
                return;
            }
            int[] row = choices[level];
            // Where even the nearest site costs too much none can be put any more.
            for (int i = 0; i < many[level] && !spent && leastCosts[level] < best - cost; i++) {
                int site = row[i] & SITE_MASK, costThen = cost + (row[i] >> SITE_BITS);
                if (costThen >= best || (low & lows[site]) != 0 || (high & highs[site]) != 0) continue;
                if (tries >= most) {
                    spent = true;
                    return;
                }
                tries++;
                put[level] = site;
                putFrom(level + 1, low | lows[site], high | highs[site], costThen);
            }
        }
    }
}
