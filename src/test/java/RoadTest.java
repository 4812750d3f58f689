/** Promise 10: road. */
public final class RoadTest {
    private static final int BAD = AwardDesk.BAD, NO = AwardDesk.NO;
    private static final Check CHECK = new Check("RoadTest");

    public static void main(String[] args) {
        tiesAreGoneBackByLeastNumber();
        priceOfSoil();
        roadsAreCheap();
        pricesToTheLast();
        closes();
        refused();
        expense();
        CHECK.end();
    }

    private static void isRoadJust(AwardDesk x, int size, int... cells) {
        for (int cell = 0; cell < size; cell++) {
            int want = 0;
            for (int c : cells) {
                if (c == cell) want = 1;
            }
            CHECK.due("road at " + cell, x.told(cell, 2), want);
        }
    }

    private static void tiesAreGoneBackByLeastNumber() {
        AwardDesk x = new AwardDesk();
        x.land(3, 3);
        // Back from 8 the cell above, 5, is of a lesser number than the one at left, 7; so on up, then to the left.
        CHECK.due("road(0, 8)", x.road(0, 8), 5);
        isRoadJust(x, 9, 0, 1, 2, 5, 8);
        x.land(3, 3);
        // Back from 0: at right 1, then 2, then below.
        CHECK.due("road(8, 0)", x.road(8, 0), 5);
        isRoadJust(x, 9, 0, 1, 2, 5, 8);
        x.land(3, 3);
        // Back from 6 to 2: above 3, then 0, then to the right.
        CHECK.due("road(2, 6)", x.road(2, 6), 5);
        isRoadJust(x, 9, 6, 3, 0, 1, 2);
        x.land(2, 2);
        CHECK.due("two beside", x.road(3, 2), 2);
        isRoadJust(x, 4, 2, 3);
    }

    private static void priceOfSoil() {
        AwardDesk x = new AwardDesk();
        x.land(3, 3);
        // Straight: 201 + (100 * s + 101) + 201; around: five of 201. Around is less from a soil of 6 on.
        x.cell(1, 0, 5);
        CHECK.due("straight, 601 against 603", x.road(0, 2), 3);
        isRoadJust(x, 9, 0, 1, 2);
        x.land(3, 3);
        x.cell(1, 0, 6);
        CHECK.due("around, 701 against 603", x.road(0, 2), 5);
        isRoadJust(x, 9, 0, 3, 4, 5, 2);
        x.land(3, 3);
        // Soils of 0 cost 101 each: seven of them are 707, the straight one is 101 + s + 101.
        for (int cell = 0; cell < 9; cell++) x.cell(cell, 0, 0);
        x.cell(1, 0, 9);
        x.cell(4, 0, 9);
        CHECK.due("a long way around", x.road(0, 2), 7);
        isRoadJust(x, 9, 0, 3, 6, 7, 8, 5, 2);
    }

    private static void roadsAreCheap() {
        AwardDesk x = new AwardDesk();
        x.land(5, 3);
        for (int cell = 10; cell < 15; cell++) x.cell(cell, 2, 1);
        // Along row 2: 201 * 2 * 2 + 5 = 809; straight: 5 * 201 = 1005.
        CHECK.due("along the road", x.road(0, 4), 4);
        isRoadJust(x, 15, 0, 5, 10, 11, 12, 13, 14, 9, 4);
        CHECK.due("expense of the new ones alone", x.sum(5, 0), 40);
        CHECK.due("nothing new", x.road(4, 0), 0);
        CHECK.due("expense as it was", x.sum(5, 0), 40);
        // The soil of a road is of no matter.
        x.land(3, 2);
        x.cell(1, 0, 9);
        x.cell(1, 2, 1);
        CHECK.due("over the road of soil 9", x.road(0, 2), 2);
        isRoadJust(x, 6, 0, 1, 2);
    }

    /** Around a close in the middle: 1, 2, 5 or 3, 6, 7. Soils of 0, 0, 0 cost 303; so do 0, 1 and a road. */
    private static void pricesToTheLast() {
        for (int turn = 0; turn < 2; turn++) {
            AwardDesk x = new AwardDesk();
            x.land(3, 3);
            for (int cell = 0; cell < 9; cell++) x.cell(cell, 0, 0);
            x.cell(4, 1, 2);
            int road = turn == 0 ? 1 : 3, worse = turn == 0 ? 2 : 6;
            x.cell(road, 2, 1);
            x.cell(worse, 0, 1);
            CHECK.due("like prices", x.road(0, 8), turn == 0 ? 4 : 5);
            if (turn == 0) isRoadJust(x, 9, 0, 1, 2, 5, 8);
            else isRoadJust(x, 9, 0, 1, 2, 3, 5, 8);
        }
    }

    private static void closes() {
        AwardDesk x = new AwardDesk();
        x.land(3, 3);
        x.cell(1, 1, 2);
        x.cell(1, 2, 1);
        CHECK.due("around a close, though it is road", x.road(0, 2), 5);
        isRoadJust(x, 9, 0, 1, 3, 4, 5, 2);
        x.land(3, 3);
        x.cell(1, 1, 2);
        x.cell(4, 1, 2);
        x.cell(7, 1, 2);
        CHECK.due("no way", x.road(0, 2), NO);
        isRoadJust(x, 9);
        CHECK.due("no expense", x.sum(5, 0), 0);
        x.cell(7, 1, 1);
        CHECK.due("a way over a field", x.road(0, 2), 7);
        x.land(3, 3);
        x.cell(0, 1, 2);
        CHECK.due("from a close", x.road(0, 2), NO);
        CHECK.due("to a close", x.road(2, 0), NO);
        isRoadJust(x, 9);
    }

    private static void refused() {
        AwardDesk x = new AwardDesk();
        int[] noCells = {-1, 30, Integer.MIN_VALUE, Integer.MAX_VALUE};
        for (int cell : noCells) {
            CHECK.due("from " + cell, x.road(cell, 0), BAD);
            CHECK.due("to " + cell, x.road(0, cell), BAD);
        }
        CHECK.due("twice the same", x.road(7, 7), BAD);
        x.cell(7, 1, 2);
        CHECK.due("BAD stands ahead of NO: the same close", x.road(7, 7), BAD);
        CHECK.due("BAD stands ahead of NO: no cell", x.road(7, 30), BAD);
        CHECK.due("no roads", x.count(5), 0);
    }

    private static void expense() {
        AwardDesk x = new AwardDesk();
        x.road(0, 1);
        CHECK.due("20", x.sum(5, 0), 20);
        x.cell(0, 2, 0);
        CHECK.due("not less when a road is taken away", x.sum(5, 0), 20);
        CHECK.due("laid again", x.road(0, 1), 1);
        CHECK.due("30", x.sum(5, 999), 30);
        x.cell(20, 2, 1);
        CHECK.due("not for a road that was told", x.sum(5, 0), 30);
        x.land(2, 2);
        CHECK.due("forgotten", x.sum(5, 0), 0);
    }
}
