/** Edges of plots, hedges and counts (Terms 4 and 5; promises 21 to 24, 26 to 28), each under the document's sentence. */
public final class PlotEdgesTest {
    private static final int NONE = AwardDesk.NONE, BAD = AwardDesk.BAD;
    private static final int FIRST = 0, WIDE = 1, HIGH = 2, WORTH = 3, FAR = 4, HEDGE = 5;
    private static final Check CHECK = new Check("PlotEdgesTest");

    public static void main(String[] args) {
        allotted();
        anyRectangle();
        taken();
        goodOrNone();
        goodWithinTheLand();
        goodIfPlain();
        goodBehindPlotsAhead();
        goodBySlack();
        goodByARoad();
        goodInTurn();
        whatOfAPlot();
        worthWithin();
        far();
        hedgeAtTheBorder();
        hedgeBesidePlotsAhead();
        hedgeBeyondTheLand();
        hedgeIsSet();
        fine();
        counted();
        CHECK.end();
    }

    /** 5 by 4 cells of soil 1, two claimants at 0 and 19. */
    private static AwardDesk desk() {
        return Village.plain(5, 4, 0, 19);
    }

    private static int good(AwardDesk x, int claimant, int cell, int wide, int high) {
        x.allot(claimant, cell, Village.sizes(wide, high));
        return x.good(claimant, 0);
    }

    private static void allotted() {
        CHECK.sentence("sizes told as 11 * wide + high, 1 .. 10 each");
        for (int sizes = -13; sizes <= 145; sizes++) {
            AwardDesk x = desk();
            int wide = Math.floorDiv(sizes, 11), high = Math.floorMod(sizes, 11);
            boolean sound = wide >= 1 && wide <= 10 && high >= 1;
            CHECK.due("sizes " + sizes, x.allot(0, 7, sizes), sound ? 0 : BAD);
            CHECK.due("first of " + sizes, x.plot(0, FIRST), sound ? 7 : NONE);
            CHECK.due("wide of " + sizes, x.plot(0, WIDE), sound ? wide : NONE);
            CHECK.due("high of " + sizes, x.plot(0, HIGH), sound ? high : NONE);
        }
        CHECK.due("the most sizes", desk().allot(0, 0, Integer.MAX_VALUE), BAD);
        CHECK.due("the least sizes", desk().allot(0, 0, Integer.MIN_VALUE), BAD);
        CHECK.sentence("BAD: claimant, cell, sizes.");
        AwardDesk x = desk();
        x.allot(0, 7, 12);
        CHECK.due("claimant 2", x.allot(2, 0, 12), BAD);
        CHECK.due("claimant -1", x.allot(-1, 0, 12), BAD);
        CHECK.due("cell 20", x.allot(0, 20, 12), BAD);
        CHECK.due("cell -1", x.allot(0, -1, 12), BAD);
        CHECK.due("it stays", x.plot(0, FIRST), 7);
        CHECK.due("the last cell", x.allot(0, 19, 12), 0);
        CHECK.due("the other one instead", x.plot(0, FIRST), 19);
        CHECK.due("still one plot", x.count(4), 1);
    }

    private static void anyRectangle() {
        CHECK.sentence("A CLAIMANT has a PLOT (any rectangle;");
        AwardDesk x = desk();
        x.cell(7, 1, 2);
        x.cell(8, 2, 1);
        CHECK.due("of a close and a road", x.allot(0, 7, Village.sizes(2, 1)), 0);
        CHECK.due("over another one", x.allot(1, 7, Village.sizes(2, 1)), 0);
        CHECK.due("beyond the land", x.allot(1, 19, Village.sizes(10, 10)), 0);
        CHECK.due("wide", x.plot(1, WIDE), 10);
        CHECK.due("high", x.plot(1, HIGH), 10);
        CHECK.due("two plots", x.count(4), 2);
    }

    private static void taken() {
        CHECK.sentence("They have none: 1 if they had one, else 0. BAD.");
        AwardDesk x = desk();
        CHECK.due("they had none", x.take(0), 0);
        x.allot(0, 0, 12);
        x.allot(1, 1, 12);
        CHECK.due("they had one", x.take(0), 1);
        CHECK.due("they have none now", x.take(0), 0);
        CHECK.due("the other has one still", x.count(4), 1);
        CHECK.due("take(2)", x.take(2), BAD);
        CHECK.due("take(-1)", x.take(-1), BAD);
    }

    private static void goodOrNone() {
        CHECK.sentence("By which of 1 .. 4 a PLOT first is not GOOD at a DAY; 0: it is; NONE: they have none. BAD.");
        AwardDesk x = desk();
        CHECK.due("none", x.good(0, 0), NONE);
        CHECK.due("none, no day", x.good(0, 1000), BAD);
        CHECK.due("none, day -1", x.good(0, -1), BAD);
        CHECK.due("claimant 2", x.good(2, 0), BAD);
        x.cell(1, 2, 1);
        CHECK.due("it is good", good(x, 0, 0, 1, 1), 0);
        CHECK.due("on the last day", x.good(0, 999), 0);
        CHECK.due("no day", x.good(0, 1000), BAD);
        x.take(0);
        CHECK.due("none again", x.good(0, 0), NONE);
    }

    /** Of a slack that takes any worth, without a road. */
    private static AwardDesk roomy() {
        AwardDesk x = desk();
        x.rule(4, 50);
        return x;
    }

    private static void goodWithinTheLand() {
        CHECK.sentence("1 it is within THE LAND, all its CELLS PLAIN");
        AwardDesk x = roomy();
        CHECK.due("all the land", good(x, 0, 0, 5, 4), 4);
        CHECK.due("one too wide", good(x, 0, 0, 6, 4), 1);
        CHECK.due("one too high", good(x, 0, 0, 5, 5), 1);
        CHECK.due("to the right border", good(x, 0, 3, 2, 1), 4);
        CHECK.due("beyond the right border by one", good(x, 0, 4, 2, 1), 1);
        CHECK.due("to the lower border", good(x, 0, 10, 1, 2), 4);
        CHECK.due("beyond the lower border by one", good(x, 0, 15, 1, 2), 1);
        CHECK.due("the last cell", good(x, 0, 19, 1, 1), 4);
        CHECK.due("all beyond but the last cell", good(x, 0, 19, 10, 10), 1);
    }

    private static void goodIfPlain() {
        CHECK.sentence("all its CELLS PLAIN");
        int[] corners = {6, 7, 8, 11, 12, 13};
        for (int cell : corners) {
            AwardDesk x = roomy();
            CHECK.due("3 by 2", good(x, 0, 6, 3, 2), 4);
            x.cell(cell, 1, 2);
            CHECK.due("a close at " + cell, x.good(0, 0), 1);
            x.cell(cell, 1, 1);
            CHECK.due("a field at " + cell, x.good(0, 0), 4);
            x.cell(cell, 2, 1);
            CHECK.due("a road at " + cell, x.good(0, 0), 1);
        }
        int[] around = {0, 1, 5, 9, 10, 14, 4, 16, 19};
        AwardDesk x = roomy();
        for (int cell : around) x.cell(cell, 1, 2);
        CHECK.due("closes around it", good(x, 0, 6, 3, 2), 4);
    }

    private static void goodBehindPlotsAhead() {
        CHECK.sentence("2 no CELL of it is in the PLOT of a CLAIMANT ahead");
        AwardDesk x = roomy();
        x.claimant(1, 0);
        x.allot(0, 6, Village.sizes(2, 2));
        int[][] apart = {{0, 5, 1}, {5, 1, 3}, {8, 2, 2}, {15, 5, 1}, {0, 1, 1}, {18, 1, 1}};
        for (int[] a : apart) CHECK.due("just beside, " + a[0], good(x, 1, a[0], a[1], a[2]), 4);
        int[][] over = {{0, 2, 2}, {2, 1, 2}, {10, 2, 1}, {12, 1, 1}, {12, 3, 2}, {0, 5, 4}, {6, 2, 2}};
        for (int[] o : over) CHECK.due("by a cell or more, " + o[0], good(x, 1, o[0], o[1], o[2]), 2);
        CHECK.due("one behind does not matter", x.good(0, 0), 4);
        CHECK.due("nor their own", good(x, 0, 6, 2, 2), 4);
        x.take(0);
        CHECK.due("one that was taken does not matter", x.good(1, 0), 4);
        x.allot(2, 7, 12);
        CHECK.due("of two ahead the second", x.good(2, 0), 2);
        // A plot ahead ends at the border of the land: it does not come in again one row lower.
        x.take(1);
        x.allot(0, 4, Village.sizes(2, 1));
        CHECK.due("no wrap-around at the right", good(x, 2, 5, 1, 1), 4);
        x.allot(0, 15, Village.sizes(1, 2));
        CHECK.due("no wrap-around below", good(x, 2, 0, 1, 1), 4);
    }

    private static void goodBySlack() {
        CHECK.sentence("3 its WORTH (its SOILS together) is not farther from DUE than SLACK (0 .. 50, 2 at first)");
        AwardDesk x = Village.plain(10, 8, 0);
        Village.strip(x, 0, 1, 0, 1, 10);
        x.cell(79, 2, 1);
        x.rule(3, 69);
        CHECK.due("a due of 10", x.has(0, 1, 10), 10);
        // Plots of one row that end at 78, beside the road.
        int[][] wideAndWant = {{7, 3}, {8, 0}, {9, 0}};
        for (int[] w : wideAndWant) {
            x.allot(0, 79 - w[0], Village.sizes(w[0], 1));
            CHECK.due("2 at first: a worth of " + w[0], x.good(0, 10), w[1]);
        }
        x.allot(0, 63, Village.sizes(6, 2));
        CHECK.due("12 is above by 2", x.good(0, 10), 0);
        x.cell(63, 0, 2);
        x.rule(3, 70);
        CHECK.due("the due is 10 still", x.has(0, 1, 10), 10);
        CHECK.due("13 is above by 3", x.good(0, 10), 3);
        x.rule(4, 3);
        CHECK.due("a slack of 3", x.good(0, 10), 0);
        x.rule(4, 0);
        CHECK.due("a slack of 0", x.good(0, 10), 3);
        x.allot(0, 69, 12);
        CHECK.due("without a due, a worth of 1", x.good(0, 9), 3);
        x.cell(69, 0, 0);
        CHECK.due("without a due, a worth of 0", x.good(0, 9), 0);
        x.rule(4, 50);
        x.rule(3, 29);
        CHECK.due("a due of 50", x.has(0, 1, 10), 50);
        CHECK.due("below by 50", x.good(0, 10), 0);
        x.rule(3, 28);
        CHECK.due("below by 51", x.good(0, 10), 3);
    }

    private static void goodByARoad() {
        CHECK.sentence("4 a CELL of it is BESIDE a ROAD");
        int[] beside = {1, 2, 5, 10, 8, 13, 16, 17}, apart = {0, 3, 15, 18, 4, 9, 14, 19};
        for (int road : beside) {
            AwardDesk x = roomy();
            x.cell(road, 2, 1);
            CHECK.due("a road at " + road, good(x, 0, 6, 2, 2), 0);
        }
        AwardDesk x = roomy();
        for (int road : apart) x.cell(road, 2, 1);
        CHECK.due("roads at corners and farther", good(x, 0, 6, 2, 2), 4);
        x.cell(5, 1, 2);
        x.cell(5, 2, 1);
        CHECK.due("a close that is road", x.good(0, 0), 0);
        AwardDesk y = roomy();
        y.cell(9, 2, 1);
        CHECK.due("no wrap-around to the left", good(y, 0, 10, 1, 1), 4);
        CHECK.due("nor with more rows", good(y, 0, 10, 2, 2), 4);
        y.land(5, 4);
        y.claimant(1, 0);
        y.cell(10, 2, 1);
        CHECK.due("no wrap-around to the right", good(y, 0, 9, 1, 1), 4);
        y.cell(10, 2, 0);
        y.cell(0, 2, 1);
        CHECK.due("nor from the last row to the first", good(y, 0, 15, 1, 1), 4);
    }

    private static void goodInTurn() {
        CHECK.sentence("By which of 1 .. 4 a PLOT first is not GOOD at a DAY");
        AwardDesk x = desk();
        x.rule(4, 0);
        x.allot(0, 4, 12);
        CHECK.due("all four", good(x, 1, 4, 2, 1), 1);
        CHECK.due("all but the first", good(x, 1, 3, 2, 1), 2);
        x.take(0);
        CHECK.due("the last two", x.good(1, 0), 3);
        x.rule(4, 2);
        CHECK.due("the last one", x.good(1, 0), 4);
        x.cell(9, 2, 1);
        CHECK.due("none", x.good(1, 0), 0);
        x.cell(4, 1, 2);
        x.allot(0, 3, 12);
        x.rule(4, 0);
        x.cell(9, 2, 0);
        CHECK.due("all four again, by a close", x.good(1, 0), 1);
    }

    private static void whatOfAPlot() {
        CHECK.sentence("Of a PLOT: what 0 its first CELL, 1 how wide, 2 high");
        AwardDesk x = desk();
        for (int what = 0; what <= 5; what++) CHECK.due("of none", x.plot(0, what), NONE);
        CHECK.due("what -1 of none", x.plot(0, -1), BAD);
        CHECK.due("what 6 of none", x.plot(0, 6), BAD);
        x.allot(0, 19, Village.sizes(10, 1));
        int[] want = {19, 10, 1, 1, 7, 2};
        for (int what = 0; what <= 5; what++) CHECK.due("what " + what, x.plot(0, what), want[what]);
        CHECK.due("what -1", x.plot(0, -1), BAD);
        CHECK.due("what 6", x.plot(0, 6), BAD);
        CHECK.due("of claimant 2", x.plot(2, 0), BAD);
        CHECK.due("of claimant -1", x.plot(-1, 0), BAD);
    }

    private static void worthWithin() {
        CHECK.sentence("3 WORTH (of its CELLS within THE LAND)");
        AwardDesk x = Village.plain(3, 2, 0);
        int[] soils = {1, 2, 4, 8, 3, 9};
        for (int cell = 0; cell < 6; cell++) x.cell(cell, 0, soils[cell]);
        int[][] cellSizesWorth = {{0, 1, 1, 1}, {0, 3, 2, 27}, {0, 10, 10, 27}, {2, 1, 2, 13}, {2, 2, 1, 4}, {2, 10, 2, 13},
            {5, 10, 10, 9}, {3, 3, 1, 20}, {3, 3, 2, 20}, {4, 2, 10, 12}};
        for (int[] c : cellSizesWorth) {
            x.allot(0, c[0], Village.sizes(c[1], c[2]));
            CHECK.due("from " + c[0] + ", " + c[1] + " by " + c[2], x.plot(0, WORTH), c[3]);
        }
        x.cell(5, 1, 2);
        x.cell(5, 2, 1);
        CHECK.due("closes and roads, too", x.plot(0, WORTH), 12);
    }

    private static void far() {
        CHECK.sentence("FAR is it from HOME by the least of steps left, right, up, down from HOME to a CELL of it.");
        // From the middle of 5 by 4, cell 7 (row 1, column 2), to plots on all sides.
        AwardDesk x = Village.plain(5, 4, 7);
        int[][] cellSizesFar = {{7, 1, 1, 0}, {0, 5, 4, 0}, {0, 1, 1, 3}, {4, 1, 1, 3}, {15, 1, 1, 4}, {19, 1, 1, 4},
            {5, 1, 1, 2}, {5, 2, 1, 1}, {5, 3, 1, 0}, {9, 1, 1, 2}, {8, 1, 1, 1}, {2, 1, 1, 1}, {12, 1, 1, 1}, {17, 1, 1, 2},
            {9, 10, 10, 2}, {19, 10, 10, 4}, {15, 3, 1, 2}, {13, 2, 2, 2}, {0, 2, 4, 1}};
        for (int[] c : cellSizesFar) {
            x.allot(0, c[0], Village.sizes(c[1], c[2]));
            CHECK.due("to " + c[0] + ", " + c[1] + " by " + c[2], x.plot(0, FAR), c[3]);
        }
        // Steps go over closes; the land has no way around its border.
        x.cell(8, 1, 2);
        x.allot(0, 9, 12);
        CHECK.due("over a close", x.plot(0, FAR), 2);
        AwardDesk y = Village.plain(5, 4, 9);
        y.allot(0, 10, 12);
        CHECK.due("no wrap-around", y.plot(0, FAR), 5);
        AwardDesk z = Village.plain(10, 8, 0);
        z.allot(0, 79, 12);
        CHECK.due("the farthest there is", z.plot(0, FAR), 16);
    }

    private static void hedgeAtTheBorder() {
        CHECK.sentence("how many sides of its CELLS are no side of another CELL of it, nor at the border of THE LAND");
        int[][] cellSizesHedge = {{6, 1, 1, 4}, {0, 1, 1, 2}, {4, 1, 1, 2}, {15, 1, 1, 2}, {19, 1, 1, 2}, {1, 1, 1, 3},
            {5, 1, 1, 3}, {9, 1, 1, 3}, {16, 1, 1, 3}, {6, 2, 2, 8}, {6, 3, 2, 10}, {0, 5, 4, 0}, {0, 5, 3, 5}, {5, 5, 1, 10},
            {1, 4, 4, 4}, {1, 3, 4, 8}};
        for (int[] c : cellSizesHedge) {
            AwardDesk x = desk();
            x.allot(0, c[0], Village.sizes(c[1], c[2]));
            CHECK.due(c[0] + ", " + c[1] + " by " + c[2], x.plot(0, HEDGE), c[3]);
        }
    }

    private static void hedgeBesidePlotsAhead() {
        CHECK.sentence("nor of a CELL in the PLOT of a CLAIMANT ahead");
        AwardDesk x = desk();
        x.allot(1, 7, 12);
        int[][] aheadAndHedge = {{2, 3}, {6, 3}, {8, 3}, {12, 3}, {1, 4}, {13, 4}, {7, 0}};
        for (int[] a : aheadAndHedge) {
            x.allot(0, a[0], 12);
            CHECK.due("one ahead at " + a[0], x.plot(1, HEDGE), a[1]);
            CHECK.due("the one ahead has its own", x.plot(0, HEDGE), a[0] < 5 ? 3 : 4);
        }
        x.allot(0, 1, Village.sizes(3, 3));
        CHECK.due("one ahead around it", x.plot(1, HEDGE), 0);
        x.take(0);
        CHECK.due("one that was taken", x.plot(1, HEDGE), 4);
        // The end of a row is not beside the begin of the next.
        x.allot(1, 5, 12);
        x.allot(0, 4, 12);
        CHECK.due("no wrap-around", x.plot(1, HEDGE), 3);
        x.allot(0, 4, Village.sizes(10, 2));
        CHECK.due("nor of one that goes beyond", x.plot(1, HEDGE), 3);
    }

    private static void hedgeBeyondTheLand() {
        CHECK.sentence("5 HEDGE (sides of CELLS beyond THE LAND count for none)");
        int[][] cellSizesHedge = {{3, 2, 1, 3}, {3, 3, 1, 3}, {3, 10, 1, 3}, {15, 1, 10, 2}, {18, 10, 10, 3}, {19, 10, 10, 2},
            {0, 10, 10, 0}, {12, 10, 1, 7}};
        for (int[] c : cellSizesHedge) {
            AwardDesk x = desk();
            x.allot(0, c[0], Village.sizes(c[1], c[2]));
            CHECK.due(c[0] + ", " + c[1] + " by " + c[2], x.plot(0, HEDGE), c[3]);
        }
    }

    private static void hedgeIsSet() {
        CHECK.sentence("HEDGE of a CLAIMANT is SET on a DAY (NONE: not SET): what it was. BAD. (It stays so for whatever PLOT.)");
        AwardDesk x = desk();
        CHECK.due("not set", x.hedge(0, NONE), NONE);
        CHECK.due("not set still", x.hedge(0, 0), NONE);
        CHECK.due("day 0", x.hedge(0, 999), 0);
        CHECK.due("day -2", x.hedge(0, -2), BAD);
        CHECK.due("day 1000", x.hedge(0, 1000), BAD);
        CHECK.due("claimant 2", x.hedge(2, 0), BAD);
        CHECK.due("claimant -1", x.hedge(-1, 0), BAD);
        CHECK.due("day 999", x.hedge(0, 5), 999);
        x.allot(0, 0, 12);
        CHECK.due("with a plot", x.hedge(0, 6), 5);
        x.allot(0, 1, 12);
        CHECK.due("with another one", x.hedge(0, 7), 6);
        x.take(0);
        CHECK.due("with none", x.hedge(0, 8), 7);
        x.draw(0, 1, 0);
        CHECK.due("with none drawn", x.hedge(0, NONE), 8);
        CHECK.due("the other one's is not set", x.hedge(1, 0), NONE);
    }

    private static void fine() {
        CHECK.sentence("HEDGE times how many DAYS the DAY on which it was SET (or t, if that is less, or it is not SET) is behind THE LIMIT");
        AwardDesk x = desk();
        x.allot(0, 6, 12);
        int[][] setDayFine = {{NONE, 899, 0}, {NONE, 900, 0}, {NONE, 901, 4}, {NONE, 999, 396}, {900, 999, 0}, {901, 999, 4},
            {901, 901, 4}, {902, 901, 4}, {999, 900, 0}, {999, 999, 396}, {0, 999, 0}, {0, 0, 0}, {950, 949, 196},
            {950, 950, 200}, {950, 951, 200}};
        for (int[] s : setDayFine) {
            x.hedge(0, s[0]);
            CHECK.due("set on " + s[0] + ", fine on " + s[1], x.fine(0, s[1]), s[2]);
        }
        CHECK.sentence("THE LIMIT is a DAY (900 at first).");
        x.hedge(0, NONE);
        x.rule(1, 999);
        CHECK.due("a limit on the last day", x.fine(0, 999), 0);
        x.rule(1, 0);
        CHECK.due("a limit on day 0", x.fine(0, 999), 3996);
        CHECK.due("on the limit", x.fine(0, 0), 0);
        CHECK.due("a day behind it", x.fine(0, 1), 4);
        x.hedge(0, 0);
        CHECK.due("set on day 0", x.fine(0, 999), 0);
        CHECK.sentence("FINE of a CLAIMANT at a DAY; 0 without a PLOT. BAD.");
        CHECK.due("without a plot", x.fine(1, 999), 0);
        CHECK.due("without a plot, no day", x.fine(1, 1000), BAD);
        CHECK.due("without a plot, day -1", x.fine(1, -1), BAD);
        CHECK.due("no day", x.fine(0, 1000), BAD);
        CHECK.due("claimant 2", x.fine(2, 0), BAD);
        x.hedge(0, NONE);
        x.take(0);
        CHECK.due("the plot was taken", x.fine(0, 999), 0);
        x.allot(0, 0, Village.sizes(5, 4));
        CHECK.due("a plot without a hedge", x.fine(0, 999), 0);
    }

    private static void counted() {
        CHECK.sentence("How many: 0 CLAIMANTS, 1 CLAIMS, 2 of these LATE, 3 OBJECTIONS, 4 PLOTS, 5 ROAD CELLS, 6 SURVEYS that are not MISSING. BAD.");
        int[] none = {0, 0, 0, 0, 0, 0, 0}, lively = {4, 6, 1, 2, 2, 4, 2};
        for (int what = 0; what <= 6; what++) {
            CHECK.due("of a new desk: " + what, new AwardDesk().count(what), none[what]);
            CHECK.due("of a lively one: " + what, Village.lively().count(what), lively[what]);
        }
        AwardDesk x = Village.full();
        for (int i = 0; i < 8; i++) x.allot(i, 0, 12);
        for (int cell = 0; cell < 6; cell++) x.cell(cell, 2, 1);
        for (int s = 0; s < 3; s++) x.survey(s, s, 0);
        int[] full = {8, 40, 19, 20, 8, 6, 3};
        for (int what = 0; what <= 6; what++) CHECK.due("of a full one: " + what, x.count(what), full[what]);
        CHECK.due("count(-1)", x.count(-1), BAD);
        CHECK.due("count(7)", x.count(7), BAD);
    }
}
