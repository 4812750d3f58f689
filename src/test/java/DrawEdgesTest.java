/** Edges of draw (Terms 4; promise 25), each under the document's sentence that names it. */
public final class DrawEdgesTest {
    private static final int NONE = AwardDesk.NONE, BAD = AwardDesk.BAD, SPENT = AwardDesk.SPENT;
    private static final int DAY = 10;
    private static final Check CHECK = new Check("DrawEdgesTest");

    public static void main(String[] args) {
        nobodyHasADue();
        onlyWhoHasADue();
        goodAndWithinTheLand();
        notBeyondTheLastRow();
        overTheLastCells();
        byARoad();
        worthNotFartherThanSlack();
        order();
        putIfLess();
        costOfFar();
        costOfMoving();
        tries();
        mostTries();
        allEight();
        noSuchWay();
        arguments();
        CHECK.end();
    }

    private static void isPlot(AwardDesk x, int claimant, int first, int wide, int high) {
        int[] got = {x.plot(claimant, 0), x.plot(claimant, 1), x.plot(claimant, 2)};
        CHECK.due("the plot of " + claimant, got, first, wide, high);
    }

    private static void hasNone(AwardDesk x, int claimant) {
        CHECK.due("the plot of " + claimant, x.plot(claimant, 0), NONE);
    }

    /** A row of plain cells of soil 1 above a row of road; claimant i holds cell i from DAY on. */
    private static AwardDesk row(int wide, int... homes) {
        AwardDesk x = Village.plain(wide, 2, homes);
        for (int cell = wide; cell < 2 * wide; cell++) x.cell(cell, 2, 1);
        for (int i = 0; i < homes.length; i++) Village.strip(x, i, 1, i, 1, DAY);
        return x;
    }

    private static void nobodyHasADue() {
        CHECK.sentence("CLAIMANTS with a DUE above 0, rising, each get a PLOT that is GOOD");
        CHECK.due("no claimants", new AwardDesk().draw(0, 1, 0), 0);
        AwardDesk x = row(3, 0, 1);
        x.allot(0, 0, 12);
        x.allot(1, 1, 12);
        CHECK.due("a day ahead of their claims", x.draw(DAY - 1, 1, 1), 0);
        CHECK.due("no plots", x.count(4), 0);
        x.allot(0, 0, 12);
        x.rule(3, 3);
        CHECK.due("all is sold", x.draw(DAY, 1, 1), 0);
        CHECK.due("no plots", x.count(4), 0);
        x.rule(3, 0);
        x.rule(0, DAY - 1);
        CHECK.due("all claims are late", x.draw(DAY, 1, 0), 0);
    }

    private static void onlyWhoHasADue() {
        CHECK.sentence("The others have none.");
        AwardDesk x = row(3, 0, 0, 0);
        x.rule(3, 2);
        x.rule(4, 0);
        for (int i = 0; i < 3; i++) x.allot(i, 0, Village.sizes(3, 1));
        // A rest of 1: the first has it.
        CHECK.due("draw", x.draw(DAY, 1, 0), 0);
        isPlot(x, 0, 0, 1, 1);
        hasNone(x, 1);
        hasNone(x, 2);
        // The plot ahead of one who has no due is no hindrance.
        AwardDesk y = row(3, 0, 0);
        y.withdraw();
        y.withdraw();
        y.claim(1, 1, 1, DAY);
        y.rule(4, 0);
        y.allot(0, 0, Village.sizes(3, 1));
        CHECK.due("draw", y.draw(DAY, 1, 0), 0);
        hasNone(y, 0);
        isPlot(y, 1, 0, 3, 1);
    }

    private static void goodAndWithinTheLand() {
        CHECK.sentence("each get a PLOT that is GOOD");
        // A due of 2, a slack of 0: the cells beside a road are 2 and 3, at two ends of rows; no plot goes around them.
        AwardDesk x = Village.plain(3, 3, 0);
        int[] closes = {0, 1, 4, 5, 7};
        for (int cell : closes) x.cell(cell, 1, 2);
        x.cell(6, 2, 1);
        x.cell(8, 2, 1);
        Village.strip(x, 2, 1, 0, 1, DAY);
        x.rule(4, 0);
        CHECK.due("a due of 2", x.has(0, 1, DAY), 2);
        CHECK.due("2 and 3 are not beside", x.draw(DAY, 20000, 0), NONE);
        x.cell(4, 1, 0);
        x.rule(3, 1);
        CHECK.due("a due of 2", x.has(0, 1, DAY), 2);
        CHECK.due("3 and 4 are", x.draw(DAY, 1, 0), 1);
        isPlot(x, 0, 3, 2, 1);
        CHECK.due("good", x.good(0, DAY), 0);
    }

    private static void notBeyondTheLastRow() {
        CHECK.sentence("1 it is within THE LAND, all its CELLS PLAIN");
        // 2 by 3: a road above, plain are 2, 4 and 5, a due of 3: no rectangle has all of them.
        AwardDesk x = Village.plain(2, 3, 0);
        x.cell(0, 2, 1);
        x.cell(1, 2, 1);
        x.cell(3, 1, 2);
        Village.strip(x, 2, 1, 0, 1, DAY);
        x.rule(4, 0);
        CHECK.due("a due of 3", x.has(0, 1, DAY), 3);
        CHECK.due("not one cell more below", x.draw(DAY, 20000, 0), NONE);
        x.cell(4, 0, 2);
        x.rule(3, 1);
        CHECK.due("a due of 3", x.has(0, 1, DAY), 3);
        CHECK.due("to the last row", x.draw(DAY, 1, 0), 1);
        isPlot(x, 0, 2, 1, 2);
    }

    private static void overTheLastCells() {
        CHECK.sentence("2 no CELL of it is in the PLOT of a CLAIMANT ahead");
        // Any two cells of the most there may be are told apart, the last ones, too.
        int[] homes = {0, 15, 16, 63, 64, 79};
        for (int home : homes) {
            for (int other = 0; other < 80; other++) {
                if (other != home) twoCells(home, other);
            }
        }
    }

    /** Two plain cells, all others closes, a road beside each; the homes of both claimants are at one of the two. */
    private static void twoCells(int home, int other) {
        AwardDesk x = Village.plain(10, 8, home, home);
        for (int cell = 0; cell < 80; cell++) x.cell(cell, 1, 2);
        x.cell(beside(home, other), 2, 1);
        x.cell(beside(other, home), 2, 1);
        Village.strip(x, home, 1, 0, 1, DAY);
        Village.strip(x, other, 1, 1, 1, DAY);
        x.rule(4, 0);
        int steps = Math.abs(home / 10 - other / 10) + Math.abs(home % 10 - other % 10);
        CHECK.due("cells " + home + " and " + other, x.draw(DAY, 20000, 0), steps);
        // Both ways cost the same: the first one counts.
        isPlot(x, 0, Math.min(home, other), 1, 1);
        isPlot(x, 1, Math.max(home, other), 1, 1);
    }

    private static int beside(int cell, int not) {
        int left = cell % 10 > 0 ? cell - 1 : cell + 1, above = cell > 9 ? cell - 10 : cell + 10;
        return left == not ? above : left;
    }

    private static void byARoad() {
        CHECK.sentence("4 a CELL of it is BESIDE a ROAD");
        for (int only = 0; only < 80; only++) {
            AwardDesk x = Village.plain(10, 8, only);
            for (int cell = 0; cell < 80; cell++) x.cell(cell, 1, 2);
            Village.strip(x, only, 1, 0, 1, DAY);
            CHECK.due("no road beside " + only, x.draw(DAY, 20000, 0), NONE);
            x.cell(beside(only, NONE), 2, 1);
            CHECK.due("a road beside " + only, x.draw(DAY, 1, 0), 0);
            isPlot(x, 0, only, 1, 1);
        }
    }

    private static void worthNotFartherThanSlack() {
        CHECK.sentence("3 its WORTH (its SOILS together) is not farther from DUE than SLACK (0 .. 50, 2 at first)");
        AwardDesk x = row(6, 0);
        CHECK.due("2 at first: 4 of 6", x.draw(DAY, 1, 0), 0);
        isPlot(x, 0, 0, 4, 1);
        for (int slack = 0; slack <= 5; slack++) {
            x.rule(4, slack);
            CHECK.due("a slack of " + slack, x.draw(DAY, 1, 0), 0);
            isPlot(x, 0, 0, 6 - slack, 1);
        }
        x.rule(4, 50);
        CHECK.due("a slack of 50", x.draw(DAY, 1, 0), 0);
        isPlot(x, 0, 0, 1, 1);
        // A cell of 9 is too much for a due of 5, and just not for a slack of 4.
        AwardDesk y = row(2, 0);
        y.cell(0, 0, 9);
        y.cell(1, 1, 2);
        y.rule(3, 4);
        y.rule(4, 3);
        CHECK.due("above by 4, a slack of 3", y.draw(DAY, 1, 0), NONE);
        y.rule(4, 4);
        CHECK.due("above by 4, a slack of 4", y.draw(DAY, 1, 0), 0);
    }

    private static void order() {
        CHECK.sentence("PLOTS are tried by first CELL, then how wide, then how high");
        // 3 by 3 with a road in the middle, a due of 2: at home, cell 0, are 1 by 2 and 2 by 1.
        AwardDesk x = Village.plain(3, 3, 0);
        x.cell(4, 2, 1);
        Village.strip(x, 0, 1, 0, 1, DAY);
        x.rule(3, 6);
        x.rule(4, 0);
        CHECK.due("one try", x.draw(DAY, 1, 0), 0);
        isPlot(x, 0, 0, 1, 2);
        // From cell 8: 1 by 2 at 5 is ahead of 2 by 1 at 7, both are at home.
        AwardDesk y = Village.plain(3, 3, 8);
        y.cell(4, 2, 1);
        Village.strip(y, 0, 1, 0, 1, DAY);
        y.rule(3, 6);
        y.rule(4, 0);
        CHECK.due("nearer and nearer", y.draw(DAY, 20000, 0), 0);
        isPlot(y, 0, 5, 1, 2);
        // The lesser first cell is ahead of the lesser size.
        AwardDesk z = row(3, 2);
        z.rule(4, 1);
        CHECK.due("far 1, then 0", z.draw(DAY, 2, 0), 0);
        isPlot(z, 0, 0, 3, 1);
    }

    private static void putIfLess() {
        CHECK.sentence("one is PUT if it is GOOD, and the COST of all that are PUT is less than that of the best so far; each that is PUT is a TRY");
        // Due 3, slack 2, home 1: put are 0 by 1 (far 1) and 0 by 2 (far 0); nothing is less than 0.
        AwardDesk x = row(3, 1);
        CHECK.due("one try", x.draw(DAY, 1, 0), SPENT);
        CHECK.due("two tries", x.draw(DAY, 2, 0), 0);
        isPlot(x, 0, 0, 2, 1);
        // Dues of 1 and 1 (of 3, one is sold), no slack, homes 0 and 2. 0 and 1 (cost 1), 0 and 2 (cost 0): three are put.
        AwardDesk y = row(3, 0, 2);
        y.rule(3, 1);
        y.rule(4, 0);
        CHECK.due("two tries", y.draw(DAY, 2, 0), SPENT);
        CHECK.due("three tries", y.draw(DAY, 3, 0), 0);
        isPlot(y, 0, 0, 1, 1);
        isPlot(y, 1, 2, 1, 1);
        // Homes 2 and 2: 0 1 (3), 0 2 (2), 1 2 (1) are put, and 1 0 is not; at 2 the first costs 0: 2 0 not, 2 1 not.
        AwardDesk z = row(3, 2, 2);
        z.rule(3, 1);
        z.rule(4, 0);
        CHECK.due("five tries", z.draw(DAY, 5, 0), SPENT);
        CHECK.due("six tries", z.draw(DAY, 6, 0), 1);
        isPlot(z, 0, 1, 1, 1);
        isPlot(z, 1, 2, 1, 1);
    }

    private static void costOfFar() {
        CHECK.sentence("COST: FAR of all");
        AwardDesk x = row(10, 9, 0);
        x.rule(3, 8);
        x.rule(4, 0);
        CHECK.due("both at home", x.draw(DAY, 20000, 0), 0);
        isPlot(x, 0, 9, 1, 1);
        isPlot(x, 1, 0, 1, 1);
        // Homes in the row of road: one step each.
        AwardDesk y = row(10, 19, 10);
        y.rule(3, 8);
        y.rule(4, 0);
        CHECK.due("one step each", y.draw(DAY, 20000, 0), 2);
        CHECK.due("far", y.plot(0, 4), 1);
        CHECK.due("far", y.plot(1, 4), 1);
    }

    private static void costOfMoving() {
        CHECK.sentence("1000 for each that is another one than the CLAIMANT had (also if they had none)");
        AwardDesk x = row(4, 0, 3);
        x.rule(4, 0);
        CHECK.due("both had none", x.draw(DAY, 20000, 1), 2000);
        CHECK.due("both have theirs", x.draw(DAY, 20000, 1), 0);
        x.take(1);
        CHECK.due("one had none", x.draw(DAY, 20000, 1), 1000);
        x.allot(1, 2, Village.sizes(2, 2));
        CHECK.due("another height", x.draw(DAY, 20000, 1), 1000);
        x.allot(1, 2, Village.sizes(1, 1));
        CHECK.due("another width", x.draw(DAY, 20000, 1), 1000);
        x.allot(1, 3, Village.sizes(2, 1));
        CHECK.due("another first cell", x.draw(DAY, 20000, 1), 1000);
        x.take(0);
        x.take(1);
        CHECK.due("not if it does not matter", x.draw(DAY, 20000, 0), 0);
        // Far from home, but not moved: 4 is less than 2000, and 1000 less than 1001.
        x.allot(0, 2, Village.sizes(2, 1));
        x.allot(1, 0, Village.sizes(2, 1));
        CHECK.due("as they had", x.draw(DAY, 20000, 1), 4);
        isPlot(x, 0, 2, 2, 1);
        x.allot(1, 1, Village.sizes(2, 1));
        CHECK.due("one is kept, one is moved away from it", x.draw(DAY, 20000, 1), 1004);
        isPlot(x, 0, 2, 2, 1);
        isPlot(x, 1, 0, 2, 1);
        CHECK.due("without that they go home", x.draw(DAY, 20000, 0), 0);
        isPlot(x, 0, 0, 2, 1);
    }

    private static void tries() {
        CHECK.sentence("SPENT: more than so many TRIES would be done.");
        // Homes at the right end: of n cells, each wider plot from cell 0 is one step nearer: n tries.
        for (int wide = 2; wide <= 10; wide++) {
            AwardDesk x = row(wide, wide - 1);
            x.rule(4, 50);
            x.allot(0, 0, 12);
            CHECK.due("just one too few of " + wide, x.draw(DAY, wide - 1, 0), SPENT);
            isPlot(x, 0, 0, 1, 1);
            CHECK.due("just enough of " + wide, x.draw(DAY, wide, 0), 0);
            isPlot(x, 0, 0, wide, 1);
        }
    }

    /** So many single cells apart from each other, each by a road; dues of 1, 1, 1 and 2, which no cell is worth. */
    private static AwardDesk chequered(int open) {
        AwardDesk x = Village.plain(10, 8, 0, 0, 0, 0);
        int left = open, strips = 0;
        for (int cell = 0; cell < 80; cell++) {
            if ((cell / 10 + cell) % 2 == 1) {
                x.cell(cell, 2, 1);
            } else if (left == 0) {
                x.cell(cell, 1, 2);
            } else {
                left--;
                if (strips < 5) Village.strip(x, cell, 1, Math.min(strips, 3), 1, DAY);
                strips++;
            }
        }
        x.rule(3, open - 5);
        x.rule(4, 0);
        return x;
    }

    private static void mostTries() {
        CHECK.sentence("with so many TRIES (1 .. 20000)");
        // Three find a cell in any order, the last never does: 27 + 27 * 26 + 27 * 26 * 25 tries.
        AwardDesk x = chequered(27);
        int[] dues = {x.has(0, 1, DAY), x.has(1, 1, DAY), x.has(2, 1, DAY), x.has(3, 1, DAY)};
        CHECK.due("dues", dues, 1, 1, 1, 2);
        CHECK.due("one too few", x.draw(DAY, 18278, 0), SPENT);
        CHECK.due("just enough", x.draw(DAY, 18279, 0), NONE);
        CHECK.due("the most", x.draw(DAY, 20000, 1), NONE);
        // With 28 of them it is 20440.
        CHECK.due("more than the most", chequered(28).draw(DAY, 20000, 0), SPENT);
        // With a slack of 1 the last finds one, too. Nearest to 0 are 0, 2, 11 and 20; three of them are two steps away.
        AwardDesk y = chequered(28);
        y.rule(4, 1);
        CHECK.due("a slack of 1", y.draw(DAY, 20000, 0), 6);
        CHECK.due("0 tries", x.draw(DAY, 0, 0), BAD);
        CHECK.due("20001 tries", x.draw(DAY, 20001, 0), BAD);
    }

    private static void allEight() {
        CHECK.sentence("When all have one, it is the best so far.");
        AwardDesk x = row(8, 0, 1, 2, 3, 4, 5, 6, 7);
        x.rule(4, 0);
        CHECK.due("seven tries", x.draw(DAY, 7, 0), SPENT);
        CHECK.due("no plots", x.count(4), 0);
        // The first way has each at home: eight are put, and nothing is less.
        CHECK.due("eight tries", x.draw(DAY, 8, 0), 0);
        for (int i = 0; i < 8; i++) isPlot(x, i, i, 1, 1);
        CHECK.due("eight plots", x.count(4), 8);
        CHECK.due("none moved", x.draw(DAY, 8, 1), 0);
    }

    private static void noSuchWay() {
        CHECK.sentence("NONE: there is no such way (all stays)");
        AwardDesk x = row(2, 0, 1);
        for (int cell = 2; cell < 4; cell++) x.cell(cell, 2, 0);
        x.cell(2, 1, 2);
        x.cell(3, 1, 2);
        x.allot(0, 1, 12);
        CHECK.due("no road", x.draw(DAY, 20000, 0), NONE);
        isPlot(x, 0, 1, 1, 1);
        hasNone(x, 1);
        x.cell(3, 2, 1);
        x.rule(4, 0);
        // Only cell 1 is by the road.
        CHECK.due("a road for one", x.draw(DAY, 20000, 1), NONE);
        isPlot(x, 0, 1, 1, 1);
        x.cell(2, 2, 1);
        CHECK.due("a road for both", x.draw(DAY, 20000, 1), 1002);
        isPlot(x, 0, 1, 1, 1);
        isPlot(x, 1, 0, 1, 1);
        // A due, but no plain cell of that worth: one cell of 9, of which 8 are sold.
        AwardDesk y = row(2, 0);
        y.cell(0, 0, 9);
        y.cell(1, 1, 2);
        y.rule(3, 8);
        CHECK.due("no cell of such a worth", y.draw(DAY, 1, 0), NONE);
    }

    private static void arguments() {
        CHECK.sentence("the fewest moved (still 1) or not (0): the COST");
        AwardDesk x = row(3, 0);
        x.allot(0, 1, 12);
        CHECK.due("still -1", x.draw(DAY, 1, -1), BAD);
        CHECK.due("still 2", x.draw(DAY, 1, 2), BAD);
        CHECK.due("day -1", x.draw(-1, 1, 0), BAD);
        CHECK.due("day 1000", x.draw(1000, 1, 0), BAD);
        isPlot(x, 0, 1, 1, 1);
        CHECK.due("day 999, one try", x.draw(999, 1, 0), 0);
        CHECK.due("day 0, one try", x.draw(0, 1, 1), 0);
        CHECK.due("no plots on day 0", x.count(4), 0);
    }
}
