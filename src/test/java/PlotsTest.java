/** Promises 21 to 24 and 26 to 28: allot, take, good, plot, hedge, fine, count. */
public final class PlotsTest {
    private static final int NONE = AwardDesk.NONE, BAD = AwardDesk.BAD;
    private static final int LEAST = Integer.MIN_VALUE, MOST = Integer.MAX_VALUE;
    private static final int[] NO_CLAIMANTS = {-1, 2, 8, LEAST, MOST};
    private static final int[] NO_DAYS = {-1, 1000, LEAST, MOST};
    private static final int FIRST = 0, WIDE = 1, HIGH = 2, WORTH = 3, FAR = 4, HEDGE = 5;
    private static final Check CHECK = new Check("PlotsTest");

    public static void main(String[] args) {
        allot();
        take();
        goodInTurn();
        goodBesideRoad();
        goodByDue();
        worthAndFar();
        hedgeSides();
        hedgeByPlotsAhead();
        hedgeIsSet();
        fine();
        count();
        CHECK.end();
    }

    /** A land of 5 by 4 and two claimants, with homes in the upper left and the lower right. */
    private static AwardDesk desk() {
        AwardDesk x = new AwardDesk();
        x.land(5, 4);
        x.claimant(1, 0);
        x.claimant(1, 19);
        return x;
    }

    private static int sizes(int wide, int high) {
        return 11 * wide + high;
    }

    private static void allot() {
        AwardDesk x = desk();
        for (int wide = 1; wide <= 10; wide++) {
            for (int high = 1; high <= 10; high++) {
                CHECK.due("allot", x.allot(1, 19, sizes(wide, high)), 0);
                CHECK.due("first", x.plot(1, FIRST), 19);
                CHECK.due("wide", x.plot(1, WIDE), wide);
                CHECK.due("high", x.plot(1, HIGH), high);
            }
        }
        int[] noSizes = {0, 1, 10, 11, 22, 110, 121, 122, 132, -1, -12, LEAST, MOST};
        for (int sizes : noSizes) CHECK.due("sizes " + sizes, x.allot(1, 0, sizes), BAD);
        int[] noCells = {-1, 20, LEAST, MOST};
        for (int cell : noCells) CHECK.due("cell " + cell, x.allot(1, cell, 12), BAD);
        for (int claimant : NO_CLAIMANTS) CHECK.due("claimant " + claimant, x.allot(claimant, 0, 12), BAD);
        CHECK.due("as it was", x.plot(1, FIRST), 19);
        CHECK.due("the other has none", x.plot(0, FIRST), NONE);
        for (int claimant : NO_CLAIMANTS) CHECK.due("plot of " + claimant, x.plot(claimant, 0), BAD);
        int[] noWhats = {-1, 6, LEAST, MOST};
        for (int what : noWhats) {
            CHECK.due("plot what " + what, x.plot(1, what), BAD);
            CHECK.due("plot what of none " + what, x.plot(0, what), BAD);
        }
        for (int what = 0; what <= 5; what++) CHECK.due("plot of none", x.plot(0, what), NONE);
    }

    private static void take() {
        AwardDesk x = desk();
        CHECK.due("none", x.take(0), 0);
        x.allot(0, 0, 12);
        x.allot(1, 1, 12);
        CHECK.due("one", x.take(0), 1);
        CHECK.due("none again", x.take(0), 0);
        CHECK.due("gone", x.plot(0, FIRST), NONE);
        CHECK.due("the other stays", x.plot(1, FIRST), 1);
        for (int claimant : NO_CLAIMANTS) CHECK.due("take of " + claimant, x.take(claimant), BAD);
    }

    private static void goodInTurn() {
        AwardDesk x = desk();
        CHECK.due("no plot", x.good(0, 0), NONE);
        for (int claimant : NO_CLAIMANTS) CHECK.due("good of " + claimant, x.good(claimant, 0), BAD);
        for (int day : NO_DAYS) CHECK.due("good on " + day, x.good(0, day), BAD);
        x.rule(4, 50);
        x.allot(0, 3, sizes(2, 4));
        CHECK.due("no road", x.good(0, 0), 4);
        x.allot(0, 3, sizes(3, 1));
        CHECK.due("beyond at the right", x.good(0, 0), 1);
        x.allot(0, 15, sizes(1, 2));
        CHECK.due("beyond below", x.good(0, 0), 1);
        x.allot(0, 5, sizes(2, 2));
        x.allot(1, 11, sizes(2, 2));
        CHECK.due("over a plot ahead", x.good(1, 0), 2);
        CHECK.due("a plot behind is of no matter", x.good(0, 0), 4);
        x.cell(17, 1, 2);
        CHECK.due("a close stands ahead of an overlap", x.good(1, 0), 1);
        x.cell(17, 1, 1);
        CHECK.due("a field is plain", x.good(1, 0), 2);
        x.cell(17, 2, 1);
        CHECK.due("a road is not", x.good(1, 0), 1);
        x.cell(17, 2, 0);
        x.rule(4, 3);
        CHECK.due("an overlap stands ahead of the worth", x.good(1, 0), 2);
        x.take(0);
        CHECK.due("a worth of 4 with no due", x.good(1, 0), 3);
        x.rule(4, 4);
        CHECK.due("a slack of 4", x.good(1, 0), 4);
        x.cell(13, 2, 1);
        CHECK.due("by a road", x.good(1, 0), 0);
        x.allot(1, 0, sizes(2, 1));
        x.cell(0, 1, 2);
        CHECK.due("the first cell is a close", x.good(1, 0), 1);
        x.allot(1, 11, sizes(2, 2));
        // A plot ahead that goes beyond the land does not come in again at the left.
        x.allot(0, 9, sizes(10, 1));
        CHECK.due("no wrap", x.good(1, 0), 0);
        x.allot(0, 9, sizes(10, 2));
        CHECK.due("no wrap with two rows", x.good(1, 0), 0);
    }

    private static void goodBesideRoad() {
        int[] roads = {7, 11, 13, 17};
        for (int road : roads) {
            AwardDesk x = desk();
            x.allot(0, 12, 12);
            x.cell(road, 2, 1);
            CHECK.due("a road at " + road, x.good(0, 0), 0);
        }
        int[] others = {6, 8, 16, 18, 2, 10, 14};
        AwardDesk x = desk();
        x.allot(0, 12, 12);
        for (int road : others) x.cell(road, 2, 1);
        CHECK.due("roads not beside it", x.good(0, 0), 4);
        x.cell(11, 1, 2);
        x.cell(11, 2, 1);
        CHECK.due("a close that is road", x.good(0, 0), 0);
        // 9 and 10 are one behind another, but not beside.
        AwardDesk y = desk();
        y.allot(0, 10, 12);
        y.cell(9, 2, 1);
        CHECK.due("a road at the end of the row above", y.good(0, 0), 4);
        y.allot(0, 4, 12);
        y.cell(9, 2, 0);
        y.cell(5, 2, 1);
        CHECK.due("a road at the begin of the row below", y.good(0, 0), 4);
    }

    private static void goodByDue() {
        AwardDesk x = desk();
        x.cell(19, 2, 1);
        x.cell(0, 1, 1);
        x.claim(0, 0, 1, 10);
        x.rule(4, 0);
        // Value 19, all to claimant 0 from day 10 on.
        x.allot(0, 14, 12);
        CHECK.due("a worth of 1 of 19", x.good(0, 10), 3);
        x.rule(4, 18);
        CHECK.due("a slack of 18", x.good(0, 10), 0);
        x.rule(4, 17);
        CHECK.due("a slack of 17", x.good(0, 10), 3);
        CHECK.due("no due at day 9", x.good(0, 9), 0);
        x.cell(14, 0, 9);
        // Value 27, worth 9.
        x.rule(4, 18);
        CHECK.due("below by 18", x.good(0, 10), 0);
        x.rule(4, 9);
        CHECK.due("above by 9", x.good(0, 9), 0);
        x.rule(4, 8);
        CHECK.due("above by 9, a slack of 8", x.good(0, 9), 3);
    }

    private static void worthAndFar() {
        AwardDesk x = desk();
        for (int cell = 0; cell < 10; cell++) x.cell(cell, 0, cell);
        x.allot(0, 6, sizes(2, 2));
        CHECK.due("worth", x.plot(0, WORTH), 15);
        CHECK.due("far", x.plot(0, FAR), 2);
        x.cell(7, 1, 2);
        x.cell(6, 2, 1);
        CHECK.due("worth of a close and a road", x.plot(0, WORTH), 15);
        x.allot(1, 6, sizes(2, 2));
        CHECK.due("far from the lower right", x.plot(1, FAR), 3);
        x.allot(1, 9, sizes(10, 10));
        CHECK.due("worth within", x.plot(1, WORTH), 11);
        CHECK.due("at home", x.plot(1, FAR), 0);
        x.allot(1, 0, sizes(5, 1));
        CHECK.due("far in one column", x.plot(1, FAR), 3);
        x.allot(1, 0, sizes(1, 4));
        CHECK.due("far in one row", x.plot(1, FAR), 4);
        x.allot(1, 4, sizes(7, 2));
        CHECK.due("far from a part within", x.plot(1, FAR), 2);
        x.allot(0, 19, 12);
        CHECK.due("far from the upper left", x.plot(0, FAR), 7);
        x.claimant(1, 6);
        x.allot(2, 13, 12);
        CHECK.due("far to the right and down", x.plot(2, FAR), 3);
        x.allot(2, 0, 12);
        CHECK.due("far to the left and up", x.plot(2, FAR), 2);
    }

    private static void hedgeSides() {
        AwardDesk x = desk();
        x.allot(0, 6, sizes(2, 2));
        CHECK.due("a square of four", x.plot(0, HEDGE), 8);
        x.allot(0, 0, 12);
        CHECK.due("a corner", x.plot(0, HEDGE), 2);
        x.allot(0, 0, sizes(5, 4));
        CHECK.due("all the land", x.plot(0, HEDGE), 0);
        x.allot(0, 5, sizes(5, 1));
        CHECK.due("a row", x.plot(0, HEDGE), 10);
        x.allot(0, 13, sizes(10, 10));
        CHECK.due("beyond the land", x.plot(0, HEDGE), 4);
        x.cell(8, 1, 2);
        x.cell(12, 2, 1);
        CHECK.due("closes and roads do not matter", x.plot(0, HEDGE), 4);
    }

    private static void hedgeByPlotsAhead() {
        AwardDesk x = desk();
        x.claimant(1, 0);
        x.allot(0, 5, sizes(1, 2));
        x.allot(2, 6, sizes(2, 2));
        CHECK.due("beside a plot ahead", x.plot(2, HEDGE), 6);
        CHECK.due("beside a plot behind", x.plot(0, HEDGE), 4);
        x.allot(1, 1, sizes(2, 1));
        CHECK.due("beside two plots ahead", x.plot(2, HEDGE), 4);
        // Cell 6 is in the plot ahead now: none of its sides counts, nor those toward it.
        x.allot(1, 1, sizes(1, 2));
        CHECK.due("over a plot ahead", x.plot(2, HEDGE), 5);
        x.allot(1, 0, sizes(10, 10));
        CHECK.due("within a plot ahead", x.plot(2, HEDGE), 0);
        CHECK.due("a plot ahead is not changed by it", x.plot(0, HEDGE), 4);
        // A plot ahead beyond the right border is not at the left one.
        x.allot(1, 4, sizes(10, 3));
        x.take(0);
        x.allot(2, 5, 12);
        CHECK.due("no wrap", x.plot(2, HEDGE), 3);
    }

    private static void hedgeIsSet() {
        AwardDesk x = desk();
        CHECK.due("not set", x.hedge(0, 0), NONE);
        CHECK.due("day 0", x.hedge(0, 999), 0);
        CHECK.due("day 999", x.hedge(0, NONE), 999);
        CHECK.due("not set again", x.hedge(0, 7), NONE);
        CHECK.due("the other", x.hedge(1, 8), NONE);
        int[] noDays = {-2, 1000, LEAST, MOST};
        for (int day : noDays) CHECK.due("hedge on " + day, x.hedge(0, day), BAD);
        for (int claimant : NO_CLAIMANTS) CHECK.due("hedge of " + claimant, x.hedge(claimant, 0), BAD);
        x.allot(0, 0, 12);
        x.take(0);
        x.allot(0, 1, 12);
        CHECK.due("it stays for whatever plot", x.hedge(0, 9), 7);
    }

    private static void fine() {
        AwardDesk x = desk();
        CHECK.due("no plot", x.fine(0, 999), 0);
        x.allot(0, 6, sizes(2, 2));
        CHECK.due("on the limit", x.fine(0, 900), 0);
        CHECK.due("ahead of it", x.fine(0, 0), 0);
        CHECK.due("a day behind", x.fine(0, 901), 8);
        CHECK.due("not set", x.fine(0, 999), 792);
        x.hedge(0, 910);
        CHECK.due("set", x.fine(0, 999), 80);
        CHECK.due("not set yet", x.fine(0, 905), 40);
        x.hedge(0, 900);
        CHECK.due("set on the limit", x.fine(0, 999), 0);
        x.hedge(0, 0);
        CHECK.due("set ahead of it", x.fine(0, 999), 0);
        x.rule(1, 0);
        x.hedge(0, NONE);
        CHECK.due("a limit of 0", x.fine(0, 999), 7992);
        CHECK.due("no plot of the other", x.fine(1, 999), 0);
        for (int claimant : NO_CLAIMANTS) CHECK.due("fine of " + claimant, x.fine(claimant, 0), BAD);
        for (int day : NO_DAYS) {
            CHECK.due("fine on " + day, x.fine(0, day), BAD);
            CHECK.due("fine of no plot on " + day, x.fine(1, day), BAD);
        }
    }

    private static void count() {
        AwardDesk x = desk();
        x.claim(0, 0, 1, 500);
        x.claim(0, 0, 1, 501);
        x.claim(1, 101, 1, 999);
        x.object(0, 0, 1);
        x.allot(1, 0, 12);
        x.cell(0, 2, 1);
        x.cell(19, 2, 1);
        x.cell(19, 1, 2);
        x.survey(1, 1, 0);
        int[] want = {2, 3, 2, 1, 1, 2, 1};
        for (int what = 0; what <= 6; what++) CHECK.due("count(" + what + ")", x.count(what), want[what]);
        x.allot(0, 0, 12);
        CHECK.due("two plots", x.count(4), 2);
        int[] noCounts = {-1, 7, LEAST, MOST};
        for (int what : noCounts) CHECK.due("count(" + what + ")", x.count(what), BAD);
    }
}
