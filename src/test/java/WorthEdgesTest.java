/** Edges of the worths (Terms 3; promises 19 and 20), each under the document's sentence that names it. */
public final class WorthEdgesTest {
    private static final int BAD = AwardDesk.BAD;
    private static final int VALUE = 0, SOLD = 1, T = 2, REST = 3, WEIGHTS = 4, EXPENSE = 5;
    private static final int WEIGHT = 0, DUE = 1, RATE = 2, COIN = 3, GATES = 4;
    private static final int FREE = 1, COPY = 2, LORD = 3, RECTOR = 4;
    private static final Check CHECK = new Check("WorthEdgesTest");

    public static void main(String[] args) {
        value();
        theLargestValue();
        stripsOfSoil();
        objectionsNotBehind();
        theFirstObjection();
        copiesAndTheLord();
        copiesWhoObject();
        commonByGates();
        tithe();
        sold();
        rest();
        leftOver();
        leftOverToSeven();
        nothingIsShared();
        theRectorsDue();
        rates();
        coin();
        coinIsNeverBelowNone();
        sums();
        hads();
        CHECK.end();
    }

    private static AwardDesk deskOf(int wide, int high, int... kinds) {
        AwardDesk x = Village.plain(wide, high);
        for (int kind : kinds) x.claimant(kind, 0);
        return x;
    }

    private static void all(AwardDesk x, int what, int day, int... want) {
        int[] got = new int[want.length];
        for (int i = 0; i < got.length; i++) got[i] = x.has(i, what, day);
        CHECK.due("has " + what + " on day " + day, got, want);
    }

    private static void value() {
        CHECK.sentence("VALUE is the sum of SOILS of all PLAIN CELLS.");
        AwardDesk x = Village.plain(2, 2);
        CHECK.due("at first", x.sum(VALUE, 0), 4);
        for (int cell = 0; cell < 4; cell++) x.cell(cell, 0, 0);
        CHECK.due("soils of 0", x.sum(VALUE, 0), 0);
        x.cell(3, 0, 9);
        CHECK.due("one of 9", x.sum(VALUE, 999), 9);
        x.cell(3, 1, 2);
        CHECK.due("a close", x.sum(VALUE, 0), 0);
    }

    private static AwardDesk richest(int claimants) {
        AwardDesk x = Village.plain(10, 8);
        for (int i = 0; i < claimants; i++) x.claimant(FREE, 0);
        x.survey(0, 0, 80);
        for (int i = 0; i < 80; i++) x.mark(0, i, 9);
        x.read(0);
        return x;
    }

    private static void theLargestValue() {
        CHECK.sentence("60 * (the sum of SOILS of COMMON PLAIN CELLS) * their GATES / all GATES");
        AwardDesk x = richest(1);
        x.claim(0, 150, 3, 0);
        CHECK.due("value", x.sum(VALUE, 0), 720);
        CHECK.due("all weights", x.sum(WEIGHTS, 0), 43200);
        all(x, WEIGHT, 0, 43200);
        all(x, DUE, 0, 720);
        AwardDesk y = richest(8);
        for (int i = 0; i < 8; i++) y.claim(i, 150, 3, 0);
        CHECK.due("all weights of eight", y.sum(WEIGHTS, 0), 43200);
        all(y, WEIGHT, 0, 5400, 5400, 5400, 5400, 5400, 5400, 5400, 5400);
        all(y, DUE, 0, 90, 90, 90, 90, 90, 90, 90, 90);
        y.claim(7, 101, 0, 0);
        y.rule(2, 50);
        CHECK.due("no rector among eight", y.sum(T, 0), 0);
    }

    private static void stripsOfSoil() {
        CHECK.sentence("of each CELL whose HOLDER is theirs 60 * SOIL");
        AwardDesk x = deskOf(3, 2, FREE, FREE);
        Village.strip(x, 0, 0, 0, 1, 10);
        all(x, WEIGHT, 10, 0, 0);
        Village.strip(x, 1, 9, 0, 1, 10);
        all(x, WEIGHT, 10, 540, 0);
        all(x, WEIGHT, 9, 0, 0);
        x.claim(1, 1, 1, 9);
        all(x, WEIGHT, 9, 0, 540);
        all(x, WEIGHT, 10, 0, 540);
        x.cell(1, 2, 1);
        all(x, WEIGHT, 10, 0, 0);
    }

    private static void objectionsNotBehind() {
        CHECK.sentence("if OBJECTIONS of a DAY not behind t on that CELL are UPHELD: 30, and 30 to the CLAIMANT of the first such one");
        AwardDesk x = deskOf(3, 2, FREE, FREE, FREE);
        Village.strip(x, 0, 9, 0, 1, 10);
        Village.strip(x, 1, 1, 0, 1, 10);
        x.claim(1, 0, 1, 11);
        x.object(1, 0, 100);
        all(x, WEIGHT, 99, 600, 0, 0);
        all(x, WEIGHT, 100, 330, 270, 0);
        x.claim(0, 0, 2, 100);
        all(x, WEIGHT, 100, 600, 0, 0);
        x.withdraw();
        // It was upheld on its day, whatever comes behind: then the holder at t has a half.
        x.claim(2, 0, 2, 101);
        all(x, WEIGHT, 100, 330, 270, 0);
        all(x, WEIGHT, 101, 60, 270, 270);
        // Without a holder at t there is nothing to halve.
        x.cell(0, 1, 0);
        all(x, WEIGHT, 101, 60, 0, 0);
    }

    private static void theFirstObjection() {
        CHECK.sentence("the CLAIMANT of the first such one");
        AwardDesk x = deskOf(3, 2, FREE, FREE, FREE);
        Village.strip(x, 0, 1, 0, 1, 10);
        x.claim(1, 0, 1, 20);
        x.claim(2, 0, 1, 30);
        x.object(2, 0, 29);
        x.object(2, 1, 30);
        x.object(1, 0, 40);
        x.object(2, 0, 40);
        // The first is not upheld, the second is on another cell.
        all(x, WEIGHT, 40, 30, 30, 0);
        x.object(2, 0, 30);
        all(x, WEIGHT, 40, 30, 30, 0);
        all(x, WEIGHT, 39, 30, 0, 30);
    }

    private static void copiesAndTheLord() {
        CHECK.sentence("of what comes to a COPY so a third to THE LORD (if there is one) and two thirds to them");
        AwardDesk x = deskOf(3, 2, COPY, FREE, RECTOR, 0);
        Village.strip(x, 0, 1, 0, 1, 0);
        all(x, WEIGHT, 0, 60, 0, 0, 0);
        x.claimant(LORD, 0);
        all(x, WEIGHT, 0, 40, 0, 0, 0, 20);
        int[] others = {1, 2, 3, 4};
        for (int other : others) Village.strip(x, other, 1, other, 1, 0);
        all(x, WEIGHT, 0, 40, 60, 60, 60, 80);
        CHECK.due("all", x.sum(WEIGHTS, 0), 300);
        // What comes by gates is not parted.
        x.claim(0, 101, 1, 1);
        all(x, WEIGHT, 1, 100, 60, 60, 60, 80);
    }

    private static void copiesWhoObject() {
        CHECK.sentence("of what comes to a COPY so");
        AwardDesk x = deskOf(3, 2, FREE, COPY, LORD);
        Village.strip(x, 0, 1, 0, 1, 0);
        x.claim(1, 0, 1, 1);
        x.object(1, 0, 1);
        all(x, WEIGHT, 1, 30, 20, 10);
        // The lord objects to a copy's strip: half of it, and a third of the other half.
        Village.strip(x, 1, 1, 1, 1, 0);
        x.claim(2, 1, 1, 1);
        x.object(2, 1, 1);
        all(x, WEIGHT, 1, 30, 40, 50);
    }

    private static void commonByGates() {
        CHECK.sentence("their GATES / all GATES (0, if there are none)");
        AwardDesk x = deskOf(3, 2, FREE, FREE);
        all(x, WEIGHT, 0, 0, 0);
        x.claim(0, 101, 0, 0);
        all(x, WEIGHT, 0, 0, 0);
        x.claim(0, 101, 1, 1);
        all(x, WEIGHT, 0, 0, 0);
        all(x, WEIGHT, 1, 360, 0);
        x.claim(1, 150, 1, 2);
        // 360 / 51 is 7.06; 360 * 50 / 51 is 352.94.
        all(x, WEIGHT, 2, 7, 352);
        CHECK.due("all weights, less than 360", x.sum(WEIGHTS, 2), 359);
        for (int cell = 0; cell < 6; cell++) x.cell(cell, 1, cell % 2 + 1);
        all(x, WEIGHT, 2, 0, 0);
        x.cell(0, 1, 0);
        x.cell(0, 2, 1);
        all(x, WEIGHT, 2, 0, 0);
        x.cell(0, 2, 0);
        // 60 / 51 and 60 * 50 / 51.
        all(x, WEIGHT, 2, 1, 58);
    }

    private static void tithe() {
        CHECK.sentence("THE TITHE 0 .. 50 (0 at first): THE RECTOR (if there is one) has T = (VALUE - SOLD) * TITHE / 100");
        AwardDesk x = deskOf(3, 2, FREE);
        x.rule(2, 50);
        CHECK.due("no rector", x.sum(T, 0), 0);
        CHECK.due("no rector: all is rest", x.sum(REST, 0), 6);
        AwardDesk y = deskOf(3, 2, RECTOR);
        CHECK.due("no tithe at first", y.sum(T, 0), 0);
        int[][] titheAndT = {{16, 0}, {17, 1}, {33, 1}, {34, 2}, {49, 2}, {50, 3}};
        for (int[] t : titheAndT) {
            y.rule(2, t[0]);
            CHECK.due("a tithe of " + t[0], y.sum(T, 0), t[1]);
            CHECK.due("due of the rector", y.has(0, DUE, 0), t[1]);
        }
        y.rule(3, 1);
        CHECK.due("of 5, 2.5 is cut", y.sum(T, 0), 2);
        y.rule(3, 6);
        CHECK.due("all is sold", y.sum(T, 0), 0);
        y.rule(3, 7);
        CHECK.due("more than all is sold", y.sum(T, 0), 0);
    }

    private static void sold() {
        CHECK.sentence("SOLD is told (0 at first; as VALUE, if it is more)");
        AwardDesk x = deskOf(3, 2, FREE);
        int[][] toldAndCounted = {{0, 0}, {5, 5}, {6, 6}, {7, 6}, {1000, 6}};
        for (int[] s : toldAndCounted) {
            x.rule(3, s[0]);
            CHECK.due("sold " + s[0], x.sum(SOLD, 0), s[1]);
            CHECK.due("rest", x.sum(REST, 0), 6 - s[1]);
        }
        CHECK.due("what was told is kept", x.rule(3, 7), 1000);
        x.cell(0, 0, 3);
        CHECK.due("it counts again when the value grows", x.sum(SOLD, 0), 7);
        CHECK.due("rest", x.sum(REST, 0), 1);
        for (int cell = 0; cell < 6; cell++) x.cell(cell, 1, 2);
        CHECK.due("no value", x.sum(SOLD, 0), 0);
        CHECK.due("no rest", x.sum(REST, 0), 0);
    }

    private static void rest() {
        CHECK.sentence("REST is VALUE less SOLD less T.");
        AwardDesk x = deskOf(10, 8, RECTOR);
        x.rule(2, 50);
        x.rule(3, 79);
        CHECK.due("half of 1 is cut", x.sum(T, 0), 0);
        CHECK.due("1", x.sum(REST, 0), 1);
        x.rule(3, 78);
        CHECK.due("half of 2", x.sum(T, 0), 1);
        CHECK.due("1 as well", x.sum(REST, 0), 1);
    }

    private static void leftOver() {
        CHECK.sentence("what is left over by cutting comes by 1 each to those of the greatest rests of that division, of like ones the first");
        AwardDesk x = deskOf(3, 3, FREE, FREE, FREE, FREE);
        for (int i = 1; i < 4; i++) Village.strip(x, i, 1, i, 1, i);
        int[][] soldAndDues = {{0, 3, 3, 3}, {1, 3, 3, 2}, {2, 3, 2, 2}, {3, 2, 2, 2}, {7, 1, 1, 0}, {8, 1, 0, 0}, {9, 0, 0, 0}};
        for (int[] s : soldAndDues) {
            x.rule(3, s[0]);
            // Who has no weight has no rest, and nothing that is left over.
            all(x, DUE, 3, 0, s[1], s[2], s[3]);
        }
        x.rule(3, 0);
        // 9 by two like ones.
        all(x, DUE, 2, 0, 5, 4, 0);
        x.cell(2, 0, 2);
        // 10 by 1, 2 and 1 of 4: 2.5, 5, 2.5.
        all(x, DUE, 3, 0, 3, 5, 2);
        // 9 by them: 2.25, 4.5, 2.25: the greatest rest is not the first one.
        x.rule(3, 1);
        all(x, DUE, 3, 0, 2, 5, 2);
        // 7 by them: 1.75, 3.5, 1.75: two of like rests are ahead of the one of less.
        x.rule(3, 3);
        all(x, DUE, 3, 0, 2, 3, 2);
    }

    private static void leftOverToSeven() {
        CHECK.sentence("what is left over by cutting comes by 1 each");
        AwardDesk x = deskOf(4, 2, 0, 0, 0, 0, 0, 0, 0, 0);
        for (int i = 0; i < 8; i++) Village.strip(x, i, 1, i, 1, 0);
        all(x, DUE, 0, 1, 1, 1, 1, 1, 1, 1, 1);
        x.rule(3, 1);
        all(x, DUE, 0, 1, 1, 1, 1, 1, 1, 1, 0);
        x.rule(3, 7);
        all(x, DUE, 0, 1, 0, 0, 0, 0, 0, 0, 0);
        x.cell(7, 0, 9);
        x.rule(3, 15);
        // 1 by 1 each and 9 for the last, of 16: the last has the greatest rest.
        all(x, DUE, 0, 0, 0, 0, 0, 0, 0, 0, 1);
    }

    private static void nothingIsShared() {
        CHECK.sentence("(all 0, if all WEIGHTS are; then nothing is shared)");
        AwardDesk x = deskOf(3, 2, FREE, RECTOR);
        all(x, DUE, 0, 0, 0);
        CHECK.due("rest stays", x.sum(REST, 0), 6);
        Village.strip(x, 0, 0, 0, 1, 0);
        all(x, DUE, 0, 0, 0);
        Village.strip(x, 1, 1, 0, 1, 1);
        all(x, DUE, 0, 0, 0);
        all(x, DUE, 1, 5, 0);
        x.rule(0, 0);
        all(x, DUE, 1, 0, 0);
    }

    private static void theRectorsDue() {
        CHECK.sentence("THE RECTOR's DUE is T more.");
        AwardDesk x = deskOf(3, 2, FREE, RECTOR, RECTOR);
        x.rule(2, 50);
        all(x, DUE, 0, 0, 3, 0);
        Village.strip(x, 0, 1, 0, 1, 1);
        all(x, DUE, 1, 3, 3, 0);
        Village.strip(x, 1, 1, 1, 1, 2);
        // 3 by two like ones, and 3 more.
        all(x, DUE, 2, 2, 4, 0);
        x.rule(3, 6);
        all(x, DUE, 2, 0, 0, 0);
    }

    private static void rates() {
        CHECK.sentence("RATES: EXPENSE is parted by DUES as REST is by WEIGHTS.");
        AwardDesk x = deskOf(3, 3, FREE, FREE, FREE);
        for (int i = 0; i < 3; i++) Village.strip(x, i, 1, i, 1, i);
        all(x, RATE, 2, 0, 0, 0);
        x.cell(8, 2, 1);
        x.road(7, 8);
        // 10 by dues of 3, 2 and 2 of 7: 4.29, 2.86, 2.86: both that are left over come to the last two.
        all(x, DUE, 2, 3, 2, 2);
        all(x, RATE, 2, 4, 3, 3);
        // 10 by dues of 4 and 3: 5.71 and 4.29.
        all(x, RATE, 1, 6, 4, 0);
        all(x, RATE, 0, 10, 0, 0);
        x.rule(3, 6);
        // A single due of 1 pays all.
        all(x, DUE, 2, 1, 0, 0);
        all(x, RATE, 2, 10, 0, 0);
        x.rule(3, 7);
        all(x, RATE, 2, 0, 0, 0);
        x.rule(3, 4);
        // 10 by three like dues: the first has what is left over.
        all(x, RATE, 2, 4, 3, 3);
        x.rule(0, 0);
        all(x, RATE, 2, 10, 0, 0);
        AwardDesk y = deskOf(3, 3, FREE);
        y.road(0, 1);
        all(y, RATE, 0, 0);
        CHECK.due("expense without dues", y.sum(EXPENSE, 0), 20);
    }

    private static void coin() {
        CHECK.sentence("COIN of a CLAIMANT at t: 3 times what their DUE would be more if no CLAIM were LATE");
        AwardDesk x = deskOf(3, 2, FREE, FREE);
        Village.strip(x, 0, 1, 0, 1, 500);
        Village.strip(x, 1, 1, 1, 1, 501);
        all(x, DUE, 501, 6, 0);
        all(x, COIN, 500, 0, 0);
        all(x, COIN, 501, 0, 9);
        x.rule(0, 501);
        all(x, COIN, 501, 0, 0);
        x.rule(0, 499);
        all(x, DUE, 501, 0, 0);
        all(x, COIN, 500, 18, 0);
        all(x, COIN, 501, 9, 9);
        x.rule(3, 5);
        // 1 would be left over to the first.
        all(x, COIN, 501, 3, 0);
        AwardDesk y = deskOf(3, 2, FREE, FREE);
        y.claim(0, 101, 1, 0);
        y.claim(1, 101, 1, 999);
        all(y, COIN, 998, 0, 0);
        all(y, COIN, 999, 0, 9);
        CHECK.due("the closing is as it was", y.rule(0, 500), 500);
        CHECK.due("it is late still", y.count(2), 1);
    }

    private static void coinIsNeverBelowNone() {
        CHECK.sentence("(0, if it would not be)");
        AwardDesk x = deskOf(3, 2, FREE, FREE);
        Village.strip(x, 0, 1, 0, 1, 0);
        x.claim(1, 0, 2, 999);
        all(x, COIN, 999, 0, 18);
        x.withdraw();
        x.claim(0, 0, 2, 999);
        all(x, COIN, 999, 0, 0);
        AwardDesk y = deskOf(3, 2, RECTOR);
        y.rule(2, 50);
        Village.strip(y, 0, 1, 0, 1, 999);
        // T of 3 is theirs in any case; the rest of 3 would be more.
        all(y, COIN, 999, 9);
    }

    private static void sums() {
        CHECK.sentence("At a DAY: what 0 VALUE, 1 SOLD (as it counts), 2 T, 3 REST, 4 all WEIGHTS, 5 EXPENSE. BAD.");
        for (int what = 0; what <= 5; what++) {
            CHECK.due("sum on day -1", Village.lively().sum(what, -1), BAD);
            CHECK.due("sum on day 1000", Village.lively().sum(what, 1000), BAD);
        }
        CHECK.due("sum -1", Village.lively().sum(-1, 0), BAD);
        CHECK.due("sum 6", Village.lively().sum(6, 0), BAD);
        // Six cells of 1 and one of 3; 1 is sold; a fifth of 8, cut; fields of 1 and 3 and a common of 5 cells.
        int[] want = {9, 1, 1, 7, 60 + 180 + 300, 40};
        for (int what = 0; what <= 5; what++) CHECK.due("sum " + what, Village.lively().sum(what, 999), want[what]);
        AwardDesk none = new AwardDesk();
        int[] first = {30, 0, 0, 30, 0, 0};
        for (int what = 0; what <= 5; what++) CHECK.due("of a new desk, sum " + what, none.sum(what, 0), first[what]);
    }

    private static void hads() {
        CHECK.sentence("Of a CLAIMANT at a DAY: what 0 WEIGHT, 1 DUE, 2 RATE, 3 COIN, 4 GATES. BAD.");
        for (int what = 0; what <= 4; what++) {
            CHECK.due("has of -1", Village.lively().has(-1, what, 0), BAD);
            CHECK.due("has of 4", Village.lively().has(4, what, 0), BAD);
            CHECK.due("has on day -1", Village.lively().has(0, what, -1), BAD);
            CHECK.due("has on day 1000", Village.lively().has(0, what, 1000), BAD);
            CHECK.due("has of a new desk", new AwardDesk().has(0, what, 0), BAD);
        }
        CHECK.due("has what -1", Village.lively().has(0, -1, 0), BAD);
        CHECK.due("has what 5", Village.lively().has(0, 5, 0), BAD);
        AwardDesk x = Village.lively();
        CHECK.due("gates of the last of whats", x.has(1, GATES, 999), 10);
        CHECK.due("of the last claimant", x.has(3, GATES, 999), 0);
    }
}
