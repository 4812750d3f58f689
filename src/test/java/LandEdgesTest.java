/** Edges of the land and its roads (Terms 1; promises 1 to 4, 10), each under the document's sentence that names it. */
public final class LandEdgesTest {
    private static final int NONE = AwardDesk.NONE, BAD = AwardDesk.BAD, NO = AwardDesk.NO;
    private static final int SOIL = 0, USE = 1, ROAD = 2, FIELD = 1, CLOSE = 2;
    private static final Check CHECK = new Check("LandEdgesTest");

    public static void main(String[] args) {
        newObject();
        sizesOfLand();
        cellsAtFirst();
        marksOfCells();
        plainCells();
        beside();
        newLand();
        roadsBetweenTwo();
        roadsOfLeastPrice();
        roadsGoneBack();
        expense();
        calls();
        CHECK.end();
    }

    private static void newObject() {
        CHECK.sentence("All as at first; no CLAIMANTS, CLAIMS, OBJECTIONS.");
        AwardDesk x = new AwardDesk();
        for (int what = 0; what <= 6; what++) CHECK.due("count(" + what + ")", x.count(what), 0);
        CHECK.due("no claimant", x.isOf(0, 0), BAD);
        CHECK.due("no claim", x.withdraw(), NO);
        CHECK.due("no objection", x.upheld(0), BAD);
        for (int i = 0; i < 8; i++) {
            CHECK.due("claimants from 0 on", x.claimant(i % 5, i), i);
            CHECK.due("without a plot", x.plot(i, 0), NONE);
            CHECK.due("good of none", x.good(i, 0), NONE);
            CHECK.due("without a hedge", x.hedge(i, NONE), NONE);
        }
        CHECK.due("claims from 0 on", x.claim(0, 0, 0, 0), 0);
        CHECK.due("objections from 0 on", x.object(0, 0, 0), 0);
        int[] rules = {500, 900, 0, 0, 2};
        for (int which = 0; which < 5; which++) CHECK.due("rule " + which, x.rule(which, 1), rules[which]);
        AwardDesk other = new AwardDesk();
        CHECK.due("one object is not another", other.count(0), 0);
        CHECK.due("nor are its rules", other.rule(0, 1), 500);
    }

    private static void sizesOfLand() {
        CHECK.sentence("THE LAND is WIDE by HIGH CELLS (2 .. 10, 2 .. 8; 6 by 5 at first), numbered row by row.");
        int[][] sound = {{2, 2}, {10, 8}, {2, 8}, {10, 2}};
        for (int[] s : sound) {
            AwardDesk x = new AwardDesk();
            int cells = s[0] * s[1];
            CHECK.due("land(" + s[0] + ", " + s[1] + ")", x.land(s[0], s[1]), cells);
            CHECK.due("the last cell", x.told(cells - 1, SOIL), 1);
            CHECK.due("behind the last cell", x.told(cells, SOIL), BAD);
            // From the first cell to the one below it is a way of two cells.
            CHECK.due("the row below begins at " + s[0], x.road(0, s[0]), 2);
        }
        int[][] wrong = {{1, 2}, {2, 1}, {11, 8}, {10, 9}, {8, 10}, {0, 0}, {-2, -2}};
        for (int[] w : wrong) CHECK.due("land(" + w[0] + ", " + w[1] + ")", new AwardDesk().land(w[0], w[1]), BAD);
        // 65536 * 65536 wraps around to 0, 65537 * 65536 to 65536.
        CHECK.due("a land that wraps around", new AwardDesk().land(65536, 65536), BAD);
        CHECK.due("a land that wraps around", new AwardDesk().land(65537, 65536), BAD);
        AwardDesk x = new AwardDesk();
        CHECK.due("6 by 5: the last cell", x.told(29, SOIL), 1);
        CHECK.due("6 by 5: one more", x.told(30, SOIL), BAD);
        CHECK.due("6 wide: the cell below the first is 6", x.road(0, 6), 2);
    }

    private static void cellsAtFirst() {
        CHECK.sentence("A CELL has a SOIL 0 .. 9 (1 at first), is COMMON (0, at first), FIELD (1) or CLOSE (2), and may be ROAD (none at first).");
        AwardDesk x = new AwardDesk();
        for (int cell = 0; cell < 30; cell++) {
            CHECK.due("soil of " + cell, x.told(cell, SOIL), 1);
            CHECK.due("use of " + cell, x.told(cell, USE), 0);
            CHECK.due("road at " + cell, x.told(cell, ROAD), 0);
        }
        CHECK.due("no roads", x.count(5), 0);
    }

    private static void marksOfCells() {
        CHECK.sentence("SOIL (what 0), COMMON, FIELD, CLOSE (1), ROAD (2: 0, 1) of a CELL becomes v: what it was. BAD.");
        int[] most = {9, 2, 1}, first = {1, 0, 0};
        for (int what = 0; what < 3; what++) {
            AwardDesk x = new AwardDesk();
            CHECK.due("one more than the most", x.cell(29, what, most[what] + 1), BAD);
            CHECK.due("one less than 0", x.cell(29, what, -1), BAD);
            CHECK.due("what it was", x.cell(29, what, most[what]), first[what]);
            CHECK.due("the most", x.told(29, what), most[what]);
            CHECK.due("the most was", x.cell(29, what, 0), most[what]);
            CHECK.due("the least", x.told(29, what), 0);
            CHECK.due("the same again", x.cell(29, what, 0), 0);
            for (int other = 0; other < 3; other++) {
                if (other != what) CHECK.due("the other marks stay", x.told(29, other), first[other]);
            }
            CHECK.due("the cell ahead stays", x.told(28, what), first[what]);
        }
        CHECK.sentence("(A CLOSE may be ROAD.)");
        AwardDesk x = new AwardDesk();
        x.cell(3, USE, CLOSE);
        CHECK.due("a close becomes road", x.cell(3, ROAD, 1), 0);
        CHECK.due("and is close still", x.told(3, USE), CLOSE);
        x.cell(4, ROAD, 1);
        CHECK.due("a road becomes close", x.cell(4, USE, CLOSE), 0);
        CHECK.due("and is road still", x.told(4, ROAD), 1);
        CHECK.due("both count as road", x.count(5), 2);
        CHECK.sentence("What it is. BAD.");
        CHECK.due("told(-1, 0)", x.told(-1, SOIL), BAD);
        CHECK.due("told(30, 0)", x.told(30, SOIL), BAD);
        CHECK.due("told(0, 3)", x.told(0, 3), BAD);
        CHECK.due("told(0, -1)", x.told(0, -1), BAD);
        x.land(2, 2);
        CHECK.due("a cell of the older land", x.told(4, SOIL), BAD);
        CHECK.due("a cell of the older land", x.cell(4, SOIL, 1), BAD);
    }

    private static void plainCells() {
        CHECK.sentence("A PLAIN CELL is neither CLOSE nor ROAD.");
        AwardDesk x = Village.plain(2, 2);
        int[] soils = {1, 2, 4, 8};
        for (int cell = 0; cell < 4; cell++) x.cell(cell, SOIL, soils[cell]);
        x.cell(0, USE, FIELD);
        CHECK.due("a field is plain", x.sum(0, 0), 15);
        x.cell(1, USE, CLOSE);
        CHECK.due("a close is not", x.sum(0, 0), 13);
        x.cell(2, ROAD, 1);
        CHECK.due("a road is not", x.sum(0, 0), 9);
        x.cell(3, ROAD, 1);
        x.cell(3, USE, CLOSE);
        CHECK.due("a close that is road is not", x.sum(0, 0), 1);
        x.cell(0, ROAD, 1);
        CHECK.due("a field that is road is not; none is left", x.sum(0, 0), 0);
    }

    private static void beside() {
        CHECK.sentence("BESIDE are two CELLS left and right, or above and below one another.");
        // Were the end of a row beside the begin of the next one, a way of two cells would do.
        CHECK.due("road(5, 6)", new AwardDesk().road(5, 6), 7);
        CHECK.due("road(6, 5)", new AwardDesk().road(6, 5), 7);
        // Nor is a cell beside one at a corner, nor the first row beside the last one.
        CHECK.due("road(0, 7)", new AwardDesk().road(0, 7), 3);
        CHECK.due("road(0, 24)", new AwardDesk().road(0, 24), 5);
        CHECK.due("road(0, 5)", new AwardDesk().road(0, 5), 6);
        AwardDesk x = Village.plain(2, 2);
        x.cell(1, USE, CLOSE);
        x.cell(2, USE, CLOSE);
        CHECK.due("only by the corner", x.road(0, 3), NO);
    }

    private static void newLand() {
        CHECK.sentence("(All CELLS as at first; no CLAIMANTS, CLAIMS, OBJECTIONS; EXPENSE 0; what else is told stays.)");
        AwardDesk x = Village.lively();
        x.rule(0, 499);
        x.rule(1, 899);
        CHECK.due("land as it was", x.land(4, 3), 12);
        for (int cell = 0; cell < 12; cell++) {
            CHECK.due("soil of " + cell, x.told(cell, SOIL), 1);
            CHECK.due("use of " + cell, x.told(cell, USE), 0);
            CHECK.due("road at " + cell, x.told(cell, ROAD), 0);
        }
        for (int what = 0; what <= 5; what++) CHECK.due("count(" + what + ")", x.count(what), 0);
        CHECK.due("expense", x.sum(5, 0), 0);
        CHECK.due("the surveys stay", x.count(6), 2);
        CHECK.due("and what is in them", x.mark(0, 0, 9), 9);
        CHECK.due("a missing one stays so", x.lose(2), AwardDesk.NOTHING);
        int[] rules = {499, 899, 20, 1, 3};
        for (int which = 0; which < 5; which++) CHECK.due("rule " + which, x.rule(which, rules[which]), rules[which]);
        CHECK.due("claimants come from 0 again", x.claimant(0, 0), 0);
        CHECK.due("without a plot", x.plot(0, 0), NONE);
        CHECK.due("without a hedge", x.hedge(0, 1), NONE);
        CHECK.due("without a weight", x.has(0, 0, 999), 0);
        CHECK.due("claims come from 0 again", x.claim(0, 0, 0, 0), 0);
        CHECK.due("objections come from 0 again", x.object(0, 0, 0), 0);
        AwardDesk full = Village.full();
        full.land(3, 2);
        for (int i = 0; i < 8; i++) CHECK.due("room for claimants", full.claimant(i % 5, 0), i);
        for (int i = 0; i < 40; i++) CHECK.due("room for claims", full.claim(0, 0, 0, 0), i);
        for (int i = 0; i < 20; i++) CHECK.due("room for objections", full.object(0, 0, 0), i);
        // Gates of claimants who are no more count for nothing.
        AwardDesk gates = Village.plain(3, 2, 0, 0, 0);
        for (int i = 0; i < 3; i++) gates.claim(i, 150, 1, 0);
        CHECK.due("a third each", gates.has(2, 0, 0), 120);
        gates.land(3, 2);
        gates.claimant(1, 0);
        gates.claim(0, 101, 1, 0);
        CHECK.due("all of it", gates.has(0, 0, 0), 360);
    }

    private static void roadsBetweenTwo() {
        CHECK.sentence("BAD: also twice the same CELL; NO: one of both is CLOSE, or there is no way.");
        CHECK.due("twice the first cell", new AwardDesk().road(0, 0), BAD);
        CHECK.due("twice the last cell", new AwardDesk().road(29, 29), BAD);
        CHECK.due("from behind the last cell", new AwardDesk().road(30, 0), BAD);
        CHECK.due("to behind the last cell", new AwardDesk().road(0, 30), BAD);
        CHECK.due("the shortest", new AwardDesk().road(0, 1), 2);
        AwardDesk x = new AwardDesk();
        x.cell(29, USE, CLOSE);
        x.cell(29, ROAD, 1);
        CHECK.due("to a close, be it road", x.road(0, 29), NO);
        CHECK.due("from a close, be it road", x.road(29, 0), NO);
        CHECK.due("nothing was laid", x.count(5), 1);
        AwardDesk y = Village.plain(3, 3);
        for (int cell = 3; cell < 6; cell++) y.cell(cell, USE, CLOSE);
        CHECK.due("over a row of closes", y.road(0, 8), NO);
        CHECK.due("along it", y.road(0, 2), 3);
        CHECK.due("back over it, from a road", y.road(8, 2), NO);
        CHECK.due("three are laid", y.count(5), 3);
        CHECK.due("for 30", y.sum(5, 0), 30);
        y.cell(4, ROAD, 1);
        CHECK.due("a close that is road is no way", y.road(7, 1), NO);
        y.cell(4, USE, FIELD);
        CHECK.due("a field is", y.road(7, 1), 1);
    }

    private static void roadsOfLeastPrice() {
        CHECK.sentence("of each CELL, first and last too, 1 if it is ROAD, else 100 * SOIL + 101");
        // In 3 by 2 from 0 to 2: cell 1 against 3, 4 and 5, which cost 303 at a soil of 0. A soil of 2 costs 301, of 3 401.
        int[] soils = {0, 2, 3, 9};
        for (int soil : soils) {
            AwardDesk x = Village.plain(3, 2);
            for (int cell = 0; cell < 6; cell++) x.cell(cell, SOIL, 0);
            x.cell(1, SOIL, soil);
            CHECK.due("a soil of " + soil, x.road(0, 2), soil < 3 ? 3 : 5);
            CHECK.due("the cell between", x.told(1, ROAD), soil < 3 ? 1 : 0);
        }
        // Three roads cost 3, less than the least of any other cell.
        AwardDesk x = Village.plain(3, 2);
        x.cell(1, SOIL, 0);
        for (int cell = 3; cell < 6; cell++) x.cell(cell, ROAD, 1);
        CHECK.due("around by the road", x.road(0, 2), 2);
        CHECK.due("the cell between is none", x.told(1, ROAD), 0);
        // A road of soil 9 costs 1 as well.
        x.land(3, 2);
        x.cell(1, SOIL, 9);
        x.cell(1, ROAD, 1);
        CHECK.due("straight by the road", x.road(0, 2), 2);
        likePrices();
        CHECK.sentence("All its CELLS become ROAD.");
        CHECK.due("the first one", x.told(0, ROAD), 1);
        CHECK.due("the one between", x.told(1, ROAD), 1);
        CHECK.due("the last one", x.told(2, ROAD), 1);
        CHECK.due("no other", x.count(5), 3);
    }

    /**
     * Around a close in the middle of 3 by 3 there are two ways: by 1, 2, 5, which is gone back if both are alike, or by
     * 3, 6, 7. Three soils of 0 cost 303, and so do a road, a soil of 0 and one of 1: any other price would part them.
     */
    private static void likePrices() {
        for (int turn = 0; turn < 2; turn++) {
            AwardDesk x = Village.plain(3, 3);
            for (int cell = 0; cell < 9; cell++) x.cell(cell, SOIL, 0);
            x.cell(4, USE, CLOSE);
            x.cell(turn == 0 ? 1 : 3, ROAD, 1);
            x.cell(turn == 0 ? 2 : 6, SOIL, 1);
            x.road(0, 8);
            CHECK.due("by 5", x.told(5, ROAD), 1);
            CHECK.due("not by 7", x.told(7, ROAD), 0);
        }
    }

    private static void roadsGoneBack() {
        CHECK.sentence("that of the least number; to the first one");
        // Both ways around are alike: back from the last cell, the one above or at the left is of the least number.
        int[][] fromToLaid = {{0, 3, 1}, {3, 0, 1}, {1, 2, 0}, {2, 1, 0}};
        for (int[] f : fromToLaid) {
            AwardDesk x = Village.plain(2, 2);
            CHECK.due("road(" + f[0] + ", " + f[1] + ")", x.road(f[0], f[1]), 3);
            CHECK.due("over " + f[2], x.told(f[2], ROAD), 1);
        }
        // Of a long way each step back is chosen anew: from 11 above to 7, to 3, then left.
        AwardDesk x = Village.plain(4, 3);
        CHECK.due("road(0, 11)", x.road(0, 11), 6);
        int[] on = {0, 1, 2, 3, 7, 11};
        for (int cell : on) CHECK.due("road at " + cell, x.told(cell, ROAD), 1);
        // A close beside, though it be road, is not gone back to.
        AwardDesk y = Village.plain(2, 2);
        y.cell(1, USE, CLOSE);
        y.cell(1, ROAD, 1);
        CHECK.due("around the close", y.road(0, 3), 3);
        CHECK.due("by the other cell", y.told(2, ROAD), 1);
    }

    private static void expense() {
        CHECK.sentence("EXPENSE is the sum of 10 for each CELL that became ROAD so ever (forgotten with land()).");
        AwardDesk x = new AwardDesk();
        CHECK.due("at first", x.sum(5, 0), 0);
        x.cell(0, ROAD, 1);
        CHECK.due("not for a cell that was told", x.sum(5, 0), 0);
        CHECK.due("one of two is new", x.road(0, 1), 1);
        CHECK.due("10", x.sum(5, 0), 10);
        CHECK.due("none is new", x.road(1, 0), 0);
        CHECK.due("10 still", x.sum(5, 0), 10);
        x.cell(0, ROAD, 0);
        x.cell(1, ROAD, 0);
        CHECK.due("ever: 10 still", x.sum(5, 999), 10);
        x.road(0, 1);
        CHECK.due("they became road once more", x.sum(5, 0), 30);
        x.land(12, 3);
        CHECK.due("a refused land forgets nothing", x.sum(5, 0), 30);
        x.land(6, 5);
        CHECK.due("forgotten", x.sum(5, 0), 0);
        AwardDesk y = new AwardDesk();
        y.land(10, 8);
        int laid = 0;
        // Cell by cell, as a longer one would go by the roads that are there.
        for (int cell = 0; cell < 80; cell += 2) laid += y.road(cell, cell + 1);
        CHECK.due("all the land", laid, 80);
        CHECK.due("800", y.sum(5, 0), 800);
        CHECK.due("80 cells of road", y.count(5), 80);
        CHECK.due("no value is left", y.sum(0, 0), 0);
    }

    private static void calls() {
        CHECK.sentence("An object is used for at most 512 calls after it has been made");
        AwardDesk x = new AwardDesk();
        x.claimant(1, 0);
        x.cell(3, USE, FIELD);
        for (int i = 3; i < 511; i++) x.cell(i % 30, SOIL, i % 10);
        CHECK.due("the 512th call", x.cell(9, SOIL, 5), 9);
    }
}
