/** Promises 1 to 4: a new object, land, cell, told. */
public final class LandTest {
    private static final int BAD = AwardDesk.BAD;
    private static final Check CHECK = new Check("LandTest");

    public static void main(String[] args) {
        newObject();
        landIsRenewed();
        landSizes();
        landForgets();
        cellsAreTold();
        wrongCells();
        CHECK.end();
    }

    private static void newObject() {
        AwardDesk x = new AwardDesk();
        for (int cell = 0; cell < 30; cell++) {
            CHECK.due("soil at first", x.told(cell, 0), 1);
            CHECK.due("common at first", x.told(cell, 1), 0);
            CHECK.due("no road at first", x.told(cell, 2), 0);
        }
        CHECK.due("told(30, 0)", x.told(30, 0), BAD);
        for (int what = 0; what <= 6; what++) CHECK.due("count at first", x.count(what), 0);
        CHECK.due("value", x.sum(0, 0), 30);
        CHECK.due("expense", x.sum(5, 0), 0);
        CHECK.due("closing", x.rule(0, 500), 500);
        CHECK.due("limit", x.rule(1, 900), 900);
        CHECK.due("tithe", x.rule(2, 0), 0);
        CHECK.due("sold", x.rule(3, 0), 0);
        CHECK.due("slack", x.rule(4, 2), 2);
        CHECK.due("withdraw", x.withdraw(), AwardDesk.NO);
        CHECK.due("isOf", x.isOf(0, 0), BAD);
        // 6 wide: from 0 to 6 is one step down, from 5 to 6 it is not one step.
        CHECK.due("road(0, 6)", x.road(0, 6), 2);
        CHECK.due("road(5, 12)", x.road(5, 12), 6);
        CHECK.due("the first claimant", x.claimant(1, 0), 0);
        CHECK.due("no plot", x.plot(0, 0), AwardDesk.NONE);
        CHECK.due("no hedge", x.hedge(0, 0), AwardDesk.NONE);
        CHECK.due("no survey", x.lose(0), AwardDesk.NOTHING);
    }

    private static void landIsRenewed() {
        AwardDesk x = new AwardDesk();
        x.cell(0, 0, 7);
        x.cell(1, 1, 2);
        x.cell(2, 2, 1);
        CHECK.due("land(3, 4)", x.land(3, 4), 12);
        for (int cell = 0; cell < 12; cell++) {
            CHECK.due("soil", x.told(cell, 0), 1);
            CHECK.due("use", x.told(cell, 1), 0);
            CHECK.due("road", x.told(cell, 2), 0);
        }
        CHECK.due("told(12, 0)", x.told(12, 0), BAD);
        CHECK.due("told(-1, 0)", x.told(-1, 0), BAD);
        // A larger land has no traces of an older one behind the smaller one's cells.
        x.land(10, 8);
        x.cell(79, 0, 9);
        x.cell(79, 1, 1);
        x.cell(79, 2, 1);
        x.land(2, 2);
        x.land(10, 8);
        CHECK.due("soil of the last cell", x.told(79, 0), 1);
        CHECK.due("use of the last cell", x.told(79, 1), 0);
        CHECK.due("road of the last cell", x.told(79, 2), 0);
    }

    private static void landSizes() {
        AwardDesk x = new AwardDesk();
        for (int wide = -1; wide <= 12; wide++) {
            for (int high = -1; high <= 10; high++) {
                boolean sound = wide >= 2 && wide <= 10 && high >= 2 && high <= 8;
                CHECK.due("land(" + wide + ", " + high + ")", x.land(wide, high), sound ? wide * high : BAD);
            }
        }
        CHECK.due("land of the least", x.land(Integer.MIN_VALUE, 5), BAD);
        CHECK.due("land of the most", x.land(5, Integer.MAX_VALUE), BAD);
        x.land(4, 3);
        x.cell(3, 0, 8);
        x.claimant(1, 2);
        x.land(11, 3);
        CHECK.due("a refused land changes no cell", x.told(3, 0), 8);
        CHECK.due("a refused land changes no claimants", x.count(0), 1);
    }

    private static void landForgets() {
        AwardDesk x = new AwardDesk();
        x.claimant(1, 0);
        x.claim(0, 3, 1, 1);
        x.object(0, 3, 2);
        x.road(0, 5);
        x.allot(0, 0, 12);
        x.hedge(0, 40);
        x.rule(0, 11);
        x.rule(1, 12);
        x.rule(2, 13);
        x.rule(3, 14);
        x.rule(4, 15);
        x.survey(1, 1, 9);
        x.mark(1, 8, 77);
        x.land(6, 5);
        for (int what = 0; what <= 5; what++) CHECK.due("count(" + what + ") behind land", x.count(what), 0);
        CHECK.due("expense behind land", x.sum(5, 0), 0);
        CHECK.due("upheld behind land", x.upheld(0), BAD);
        CHECK.due("surveys stay", x.count(6), 1);
        CHECK.due("marks stay", x.mark(1, 8, 0), 77);
        for (int which = 0; which <= 4; which++) CHECK.due("rules stay", x.rule(which, 0), 11 + which);
        CHECK.due("a new claimant", x.claimant(0, 0), 0);
        CHECK.due("has no plot", x.plot(0, 0), AwardDesk.NONE);
        CHECK.due("and no hedge", x.hedge(0, 0), AwardDesk.NONE);
        CHECK.due("claims begin at 0", x.claim(0, 0, 0, 0), 0);
        CHECK.due("objections begin at 0", x.object(0, 0, 0), 0);
    }

    private static void cellsAreTold() {
        AwardDesk x = new AwardDesk();
        CHECK.due("cell soil 9", x.cell(29, 0, 9), 1);
        CHECK.due("cell soil 0", x.cell(29, 0, 0), 9);
        CHECK.due("told soil", x.told(29, 0), 0);
        CHECK.due("cell field", x.cell(29, 1, 1), 0);
        CHECK.due("cell close", x.cell(29, 1, 2), 1);
        CHECK.due("told close", x.told(29, 1), 2);
        CHECK.due("a close may be road", x.cell(29, 2, 1), 0);
        CHECK.due("told road", x.told(29, 2), 1);
        CHECK.due("it is close still", x.told(29, 1), 2);
        CHECK.due("count of roads", x.count(5), 1);
        CHECK.due("no expense for it", x.sum(5, 0), 0);
        CHECK.due("no longer road", x.cell(29, 2, 0), 1);
        CHECK.due("count of no roads", x.count(5), 0);
        CHECK.due("common again", x.cell(29, 1, 0), 2);
        CHECK.due("the cell ahead is as it was", x.told(28, 0), 1);
    }

    private static void wrongCells() {
        AwardDesk x = new AwardDesk();
        int[] noCells = {-1, 30, 80, Integer.MIN_VALUE, Integer.MAX_VALUE};
        for (int cell : noCells) {
            for (int what = 0; what < 3; what++) {
                CHECK.due("cell(" + cell + ")", x.cell(cell, what, 0), BAD);
                CHECK.due("told(" + cell + ")", x.told(cell, what), BAD);
            }
        }
        int[] noMarks = {-1, 3, Integer.MIN_VALUE, Integer.MAX_VALUE};
        for (int what : noMarks) {
            CHECK.due("cell what " + what, x.cell(0, what, 0), BAD);
            CHECK.due("told what " + what, x.told(0, what), BAD);
        }
        int[] tops = {9, 2, 1};
        for (int what = 0; what < 3; what++) {
            int was = x.told(0, what);
            CHECK.due("v above", x.cell(0, what, tops[what] + 1), BAD);
            CHECK.due("v below", x.cell(0, what, -1), BAD);
            CHECK.due("as it was", x.told(0, what), was);
            CHECK.due("the most", x.cell(0, what, tops[what]), was);
            CHECK.due("the least", x.cell(0, what, 0), tops[what]);
        }
    }
}
