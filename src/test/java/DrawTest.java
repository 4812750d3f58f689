/** Promise 25: draw. */
public final class DrawTest {
    private static final int NONE = AwardDesk.NONE, BAD = AwardDesk.BAD, SPENT = AwardDesk.SPENT;
    private static final Check CHECK = new Check("DrawTest");

    public static void main(String[] args) {
        nobodyIsDue();
        triesAreCounted();
        costMustBeLess();
        fewestMoved();
        wideAheadOfHigh();
        twoTakers();
        othersHaveNone();
        impossible();
        rectorAlone();
        byDay();
        overTheLastCells();
        overTheWords();
        noRoadAtAll();
        refused();
        CHECK.end();
    }

    private static void isPlot(AwardDesk x, int claimant, int first, int wide, int high) {
        CHECK.due("first cell of " + claimant, x.plot(claimant, 0), first);
        CHECK.due("wide of " + claimant, x.plot(claimant, 1), wide);
        CHECK.due("high of " + claimant, x.plot(claimant, 2), high);
    }

    /** One row of cells above one row of road; a strip for each claimant, from the left, claimed on day 10. */
    private static AwardDesk row(int wide, int... homes) {
        AwardDesk x = new AwardDesk();
        x.land(wide, 2);
        for (int i = 0; i < wide; i++) x.cell(wide + i, 2, 1);
        for (int i = 0; i < homes.length; i++) {
            x.claimant(1, homes[i]);
            x.cell(i, 1, 1);
            x.claim(i, i, 1, 10);
        }
        return x;
    }

    private static void nobodyIsDue() {
        AwardDesk x = row(3, 2);
        x.allot(0, 0, 12);
        CHECK.due("nobody is due at day 9", x.draw(9, 1, 0), 0);
        CHECK.due("no plots any more", x.count(4), 0);
        CHECK.due("no claimants at all", new AwardDesk().draw(0, 1, 1), 0);
    }

    private static void triesAreCounted() {
        AwardDesk x = row(3, 2);
        // A due of 3, a slack of 2: all rectangles fit. Put are 0 of 1 wide (far 2), of 2 (far 1), of 3 (far 0).
        CHECK.due("two tries", x.draw(10, 2, 0), SPENT);
        CHECK.due("all stays", x.plot(0, 0), NONE);
        CHECK.due("three tries", x.draw(10, 3, 0), 0);
        isPlot(x, 0, 0, 3, 1);
        x.allot(0, 1, 12);
        CHECK.due("one try", x.draw(10, 1, 0), SPENT);
        isPlot(x, 0, 1, 1, 1);
    }

    private static void costMustBeLess() {
        AwardDesk x = row(3, 0);
        // The first one is at home: none of the others, at home too, costs less.
        CHECK.due("one try", x.draw(10, 1, 0), 0);
        isPlot(x, 0, 0, 1, 1);
        x.rule(4, 0);
        CHECK.due("no slack", x.draw(10, 1, 0), 0);
        isPlot(x, 0, 0, 3, 1);
    }

    private static void fewestMoved() {
        AwardDesk x = row(3, 2);
        x.allot(0, 1, 12);
        // 1002, 1001, 1000, then the one that is there with 1; the others cost 1000 again.
        CHECK.due("three tries", x.draw(10, 3, 1), SPENT);
        CHECK.due("four tries", x.draw(10, 4, 1), 1);
        isPlot(x, 0, 1, 1, 1);
        x.take(0);
        CHECK.due("they had none", x.draw(10, 3, 1), 1000);
        isPlot(x, 0, 0, 3, 1);
        x.rule(4, 0);
        x.allot(0, 0, 12);
        CHECK.due("the one that is there is not good", x.draw(10, 1, 1), 1000);
        isPlot(x, 0, 0, 3, 1);
        CHECK.due("now it is", x.draw(10, 1, 1), 0);
        // Of the same first cell but not as wide is another one.
        x.rule(4, 2);
        x.allot(0, 0, 23);
        CHECK.due("far 1, not moved", x.draw(10, 20000, 1), 1);
        isPlot(x, 0, 0, 2, 1);
    }

    private static void wideAheadOfHigh() {
        AwardDesk x = new AwardDesk();
        x.land(3, 3);
        x.cell(4, 2, 1);
        x.claimant(1, 0);
        x.cell(0, 1, 1);
        x.claim(0, 0, 1, 10);
        x.rule(3, 6);
        x.rule(4, 0);
        CHECK.due("a due of 2", x.has(0, 1, 10), 2);
        CHECK.due("draw", x.draw(10, 1, 0), 0);
        isPlot(x, 0, 0, 1, 2);
        x.cell(3, 1, 2);
        x.rule(3, 5);
        CHECK.due("around a close", x.draw(10, 1, 0), 0);
        isPlot(x, 0, 0, 2, 1);
    }

    private static void twoTakers() {
        AwardDesk x = row(4, 1, 2);
        x.rule(4, 0);
        CHECK.due("dues", x.has(0, 1, 10), 2);
        CHECK.due("two tries", x.draw(10, 2, 0), 0);
        isPlot(x, 0, 0, 2, 1);
        isPlot(x, 1, 2, 2, 1);
        CHECK.due("one try", x.draw(10, 1, 0), SPENT);
        // Crossed homes: 0 and 2 (1 + 1), then 1 alone, then 2 and 0 (0 + 0): five are put.
        x = row(4, 2, 1);
        x.rule(4, 0);
        CHECK.due("four tries", x.draw(10, 4, 0), SPENT);
        CHECK.due("five tries", x.draw(10, 5, 0), 0);
        isPlot(x, 0, 2, 2, 1);
        isPlot(x, 1, 0, 2, 1);
        // Both are moved by the first way; the one that stands costs nothing.
        CHECK.due("not moved", x.draw(10, 100, 1), 0);
        isPlot(x, 0, 2, 2, 1);
        CHECK.due("good", x.good(0, 10), 0);
        CHECK.due("good", x.good(1, 10), 0);
    }

    private static void othersHaveNone() {
        AwardDesk x = row(3, 0, 2);
        x.withdraw();
        x.withdraw();
        x.claim(1, 1, 1, 10);
        x.rule(4, 0);
        // Claimant 0 has no due: their plot is no hindrance, and is gone behind it.
        x.allot(0, 0, 14);
        x.allot(1, 1, 12);
        x.hedge(0, 77);
        CHECK.due("not good as it stands", x.good(1, 10), 3);
        CHECK.due("draw", x.draw(10, 1, 1), 1000);
        isPlot(x, 1, 0, 3, 1);
        CHECK.due("no plot", x.plot(0, 0), NONE);
        CHECK.due("plots", x.count(4), 1);
        CHECK.due("the hedge stays set", x.hedge(0, 78), 77);
    }

    private static void impossible() {
        AwardDesk x = row(3, 0, 2);
        x.rule(4, 0);
        CHECK.due("dues of 2 and 1", x.has(0, 1, 10) * 10 + x.has(1, 1, 10), 21);
        x.cell(1, 1, 2);
        x.allot(0, 2, 12);
        // Claimant 0 alone is due 2 now, but the two cells left are apart.
        CHECK.due("due", x.has(0, 1, 10), 2);
        CHECK.due("no such way", x.draw(10, 1, 0), NONE);
        isPlot(x, 0, 2, 1, 1);
        x.rule(4, 1);
        CHECK.due("a slack of 1", x.draw(10, 1, 0), 0);
        for (int cell = 3; cell < 6; cell++) x.cell(cell, 2, 0);
        CHECK.due("no road", x.draw(10, 20000, 0), NONE);
        isPlot(x, 0, 0, 1, 1);
    }

    private static void rectorAlone() {
        AwardDesk x = row(4);
        x.claimant(1, 0);
        x.claimant(4, 3);
        x.rule(2, 50);
        x.rule(4, 0);
        CHECK.due("T", x.has(1, 1, 0), 2);
        CHECK.due("draw", x.draw(0, 3, 0), 0);
        isPlot(x, 1, 2, 2, 1);
        CHECK.due("plots", x.count(4), 1);
    }

    private static void byDay() {
        AwardDesk x = row(4, 0, 3);
        x.claim(1, 0, 3, 20);
        x.rule(4, 0);
        CHECK.due("both at day 10", x.draw(10, 100, 0), 0);
        CHECK.due("plots", x.count(4), 2);
        CHECK.due("one at day 20", x.draw(20, 100, 0), 0);
        CHECK.due("plots", x.count(4), 1);
        isPlot(x, 1, 0, 4, 1);
    }

    private static void overTheLastCells() {
        AwardDesk x = new AwardDesk();
        x.land(10, 8);
        x.claimant(1, 79);
        x.claimant(1, 79);
        x.cell(78, 2, 1);
        x.cell(70, 2, 1);
        x.cell(0, 1, 1);
        x.cell(1, 1, 1);
        x.claim(0, 0, 1, 0);
        x.claim(1, 1, 1, 0);
        x.rule(3, 76);
        x.rule(4, 0);
        // Dues of 1: by a road are 60, 68, 71, 77 and 79; 68 and 79 are the first of the ways that cost 2.
        CHECK.due("draw", x.draw(0, 20000, 0), 2);
        isPlot(x, 0, 68, 1, 1);
        isPlot(x, 1, 79, 1, 1);
        CHECK.due("good", x.good(0, 0), 0);
        CHECK.due("good", x.good(1, 0), 0);
    }

    /** Cells of all numbers are told apart, wherever 64 of them may end. */
    private static void overTheWords() {
        int[] homes = {0, 64};
        for (int home : homes) {
            AwardDesk x = new AwardDesk();
            x.land(10, 8);
            x.claimant(1, home);
            x.claimant(1, 64);
            x.cell(1, 2, 1);
            x.cell(65, 2, 1);
            x.cell(20, 1, 1);
            x.cell(21, 1, 1);
            x.claim(0, 20, 1, 0);
            x.claim(1, 21, 1, 0);
            x.rule(3, 76);
            x.rule(4, 0);
            // Both are due one cell. By the roads are 0, 2, 11, and 64, 55, 66, 75.
            CHECK.due("homes " + home + " and 64", x.draw(0, 20000, 0), home == 0 ? 0 : 2);
            isPlot(x, 0, home == 0 ? 0 : 55, 1, 1);
            isPlot(x, 1, 64, 1, 1);
        }
    }

    private static void noRoadAtAll() {
        AwardDesk x = new AwardDesk();
        x.land(10, 8);
        x.claimant(1, 0);
        x.cell(0, 1, 1);
        x.claim(0, 0, 1, 0);
        x.rule(3, 70);
        x.rule(4, 50);
        CHECK.due("due", x.has(0, 1, 0), 10);
        CHECK.due("no road", x.draw(0, 20000, 0), NONE);
        x.cell(79, 2, 1);
        // 9 is due, 59 is the most: rectangles from cell 2 or 20 to the corner fit, all nearer ones are too large.
        CHECK.due("a road in the corner", x.draw(0, 20000, 0), 2);
        CHECK.due("good", x.good(0, 0), 0);
    }

    private static void refused() {
        AwardDesk x = row(3, 0);
        x.allot(0, 1, 12);
        int[] noDays = {-1, 1000, Integer.MIN_VALUE, Integer.MAX_VALUE};
        for (int day : noDays) CHECK.due("day " + day, x.draw(day, 1, 0), BAD);
        int[] noTries = {-1, 0, 20001, Integer.MIN_VALUE, Integer.MAX_VALUE};
        for (int tries : noTries) CHECK.due("tries " + tries, x.draw(10, tries, 0), BAD);
        int[] noStill = {-1, 2, Integer.MIN_VALUE, Integer.MAX_VALUE};
        for (int still : noStill) CHECK.due("still " + still, x.draw(10, 1, still), BAD);
        isPlot(x, 0, 1, 1, 1);
        CHECK.due("the most tries", x.draw(999, 20000, 0), 0);
    }
}
