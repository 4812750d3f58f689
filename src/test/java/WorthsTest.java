/** Promises 19 and 20: sum, has. */
public final class WorthsTest {
    private static final int BAD = AwardDesk.BAD;
    private static final int VALUE = 0, SOLD = 1, T = 2, REST = 3, WEIGHTS = 4, EXPENSE = 5;
    private static final int WEIGHT = 0, DUE = 1, RATE = 2, COIN = 3, GATES = 4;
    private static final Check CHECK = new Check("WorthsTest");

    public static void main(String[] args) {
        values();
        tithe();
        gates();
        commonIsCut();
        strips();
        objectors();
        copyAndLord();
        leftOver();
        landForgetsRanks();
        rectorsDue();
        rates();
        coin();
        coinOfGatesAndObjections();
        refused();
        CHECK.end();
    }

    private static void isHad(AwardDesk x, int what, int day, int... want) {
        for (int i = 0; i < want.length; i++) {
            CHECK.due("has(" + i + ", " + what + ", " + day + ")", x.has(i, what, day), want[i]);
        }
    }

    private static AwardDesk deskOf(int wide, int high, int... kinds) {
        AwardDesk x = new AwardDesk();
        x.land(wide, high);
        for (int kind : kinds) x.claimant(kind, 0);
        return x;
    }

    private static void strip(AwardDesk x, int cell, int soil, int claimant, int proof, int day) {
        x.cell(cell, 1, 1);
        x.cell(cell, 0, soil);
        x.claim(claimant, cell, proof, day);
    }

    private static void values() {
        AwardDesk x = deskOf(3, 2);
        x.cell(0, 0, 9);
        CHECK.due("value", x.sum(VALUE, 0), 14);
        x.cell(1, 1, 1);
        CHECK.due("a field counts", x.sum(VALUE, 0), 14);
        x.cell(1, 1, 2);
        CHECK.due("a close does not", x.sum(VALUE, 0), 13);
        x.cell(0, 2, 1);
        CHECK.due("a road does not", x.sum(VALUE, 0), 4);
        x.cell(1, 2, 1);
        CHECK.due("a close that is road does not, once", x.sum(VALUE, 999), 4);
        x.rule(3, 3);
        CHECK.due("sold", x.sum(SOLD, 0), 3);
        CHECK.due("rest", x.sum(REST, 0), 1);
        x.rule(3, 1000);
        CHECK.due("sold as value", x.sum(SOLD, 0), 4);
        CHECK.due("rest of none", x.sum(REST, 0), 0);
        CHECK.due("no weights", x.sum(WEIGHTS, 0), 0);
    }

    private static void tithe() {
        AwardDesk x = deskOf(10, 8, 1);
        x.rule(2, 50);
        CHECK.due("no rector, no T", x.sum(T, 0), 0);
        CHECK.due("all is rest", x.sum(REST, 0), 80);
        x.claimant(4, 0);
        CHECK.due("half", x.sum(T, 0), 40);
        x.rule(2, 3);
        CHECK.due("2.4 is cut", x.sum(T, 0), 2);
        x.rule(3, 14);
        CHECK.due("1.98 is cut", x.sum(T, 0), 1);
        CHECK.due("rest", x.sum(REST, 0), 65);
    }

    private static void gates() {
        AwardDesk x = deskOf(3, 2, 1, 1);
        x.claim(0, 110, 1, 100);
        x.claim(0, 107, 3, 50);
        x.claim(0, 150, 0, 50);
        x.claim(0, 120, 2, 501);
        CHECK.due("none is known", x.has(0, GATES, 49), 0);
        CHECK.due("known with proof", x.has(0, GATES, 50), 7);
        CHECK.due("not yet", x.has(0, GATES, 99), 7);
        CHECK.due("the most, not the sum", x.has(0, GATES, 100), 10);
        CHECK.due("late ones do not count", x.has(0, GATES, 999), 10);
        x.rule(0, 501);
        CHECK.due("not late, not known", x.has(0, GATES, 500), 10);
        CHECK.due("not late, known", x.has(0, GATES, 501), 20);
        CHECK.due("the other has none", x.has(1, GATES, 999), 0);
        x.withdraw();
        CHECK.due("a claim that is no more", x.has(0, GATES, 501), 10);
        x.claim(0, 5, 3, 0);
        CHECK.due("a strip is no gate", x.has(1, GATES, 999), 0);
    }

    private static void commonIsCut() {
        AwardDesk x = deskOf(3, 2, 1, 1, 1);
        // 60 * 7 = 420 by 3, 5 and 3 of 11: 114.54, 190.9, 114.54; weights are cut, nothing is left over to anyone.
        x.cell(0, 0, 3);
        x.cell(5, 1, 1);
        x.claim(0, 103, 1, 0);
        x.claim(1, 105, 1, 0);
        x.claim(2, 103, 1, 9);
        CHECK.due("all weights", x.sum(WEIGHTS, 9), 418);
        isHad(x, WEIGHT, 9, 114, 190, 114);
        isHad(x, WEIGHT, 8, 157, 262, 0);
        x.cell(0, 2, 1);
        isHad(x, WEIGHT, 9, 65, 109, 65);
        x.cell(1, 1, 2);
        isHad(x, WEIGHT, 9, 49, 81, 49);
    }

    private static void strips() {
        AwardDesk x = deskOf(3, 2, 1, 1);
        strip(x, 0, 3, 0, 1, 10);
        strip(x, 1, 0, 0, 1, 10);
        strip(x, 2, 9, 0, 1, 20);
        x.claim(1, 2, 2, 30);
        isHad(x, WEIGHT, 9, 0, 0);
        isHad(x, WEIGHT, 10, 180, 0);
        isHad(x, WEIGHT, 20, 720, 0);
        isHad(x, WEIGHT, 30, 180, 540);
        x.rule(0, 29);
        isHad(x, WEIGHT, 30, 720, 0);
        x.cell(2, 2, 1);
        isHad(x, WEIGHT, 30, 180, 0);
    }

    private static void objectors() {
        AwardDesk x = deskOf(3, 2, 1, 1, 1);
        strip(x, 0, 5, 0, 1, 10);
        x.claim(1, 0, 1, 20);
        x.claim(2, 0, 1, 30);
        x.object(1, 0, 19);
        x.object(2, 0, 40);
        x.object(1, 0, 35);
        // The first one, of day 19, is not upheld; of the other two the first by number has it, once it was made.
        isHad(x, WEIGHT, 34, 300, 0, 0);
        isHad(x, WEIGHT, 39, 150, 150, 0);
        isHad(x, WEIGHT, 40, 150, 0, 150);
        // The holder at a later day may be the objector: both halves are theirs.
        x.claim(2, 0, 3, 50);
        isHad(x, WEIGHT, 49, 150, 0, 150);
        isHad(x, WEIGHT, 50, 0, 0, 300);
        x.object(1, 1, 36);
        isHad(x, WEIGHT, 39, 150, 150, 0);
    }

    private static void copyAndLord() {
        AwardDesk x = deskOf(3, 2, 2, 1);
        strip(x, 0, 5, 0, 1, 10);
        isHad(x, WEIGHT, 10, 300, 0);
        x.claimant(3, 0);
        x.claimant(3, 0);
        isHad(x, WEIGHT, 10, 200, 0, 100, 0);
        strip(x, 1, 1, 2, 1, 10);
        isHad(x, WEIGHT, 10, 200, 0, 160, 0);
        // An objector who is a copy parts with a third of the half, too.
        strip(x, 2, 7, 1, 1, 10);
        x.claim(0, 2, 1, 11);
        x.object(0, 2, 11);
        isHad(x, WEIGHT, 11, 340, 210, 230, 0);
        // The common comes to a copy whole.
        x.claim(0, 101, 1, 12);
        isHad(x, WEIGHT, 12, 520, 210, 230, 0);
        CHECK.due("all weights", x.sum(WEIGHTS, 12), 960);
    }

    private static void landForgetsRanks() {
        AwardDesk x = deskOf(3, 2, 1, 3, 4);
        strip(x, 0, 5, 0, 1, 10);
        x.claim(1, 0, 1, 11);
        x.object(1, 0, 11);
        isHad(x, WEIGHT, 11, 150, 150, 0);
        x.land(3, 2);
        x.claimant(2, 0);
        x.rule(2, 50);
        strip(x, 0, 5, 0, 1, 10);
        isHad(x, WEIGHT, 11, 300);
        isHad(x, DUE, 11, 10);
        CHECK.due("no rector any more", x.sum(T, 11), 0);
    }

    private static void leftOver() {
        AwardDesk x = deskOf(4, 2, 1, 1, 1);
        strip(x, 0, 1, 0, 1, 0);
        strip(x, 1, 1, 1, 1, 0);
        strip(x, 2, 1, 2, 1, 0);
        // 8 by three like weights: 2.67 each; the two left over come to the first two.
        isHad(x, DUE, 0, 3, 3, 2);
        x.cell(2, 0, 2);
        // 9 by 1, 1, 2 of 4: 2.25, 2.25, 4.5: the one left over comes to the greatest rest.
        isHad(x, DUE, 0, 2, 2, 5);
        x.cell(2, 0, 3);
        // 10 by 1, 1, 3 of 5: nothing is left over.
        isHad(x, DUE, 0, 2, 2, 6);
        x.cell(2, 0, 5);
        // 12 by 1, 1, 5 of 7: 1.71, 1.71, 8.57: two are left over.
        isHad(x, DUE, 0, 2, 2, 8);
        x.withdraw();
        x.withdraw();
        isHad(x, DUE, 0, 12, 0, 0);
        x.withdraw();
        isHad(x, DUE, 0, 0, 0, 0);
        CHECK.due("nothing is shared, rest stays", x.sum(REST, 0), 12);
    }

    private static void rectorsDue() {
        AwardDesk x = deskOf(5, 4, 4, 4, 1);
        x.rule(2, 10);
        isHad(x, DUE, 0, 2, 0, 0);
        strip(x, 0, 1, 0, 1, 5);
        strip(x, 1, 1, 2, 1, 5);
        CHECK.due("rest", x.sum(REST, 5), 18);
        isHad(x, DUE, 5, 11, 0, 9);
        x.rule(3, 20);
        isHad(x, DUE, 5, 0, 0, 0);
    }

    private static void rates() {
        AwardDesk x = deskOf(5, 2, 1, 4, 1);
        strip(x, 0, 2, 0, 1, 5);
        strip(x, 1, 1, 2, 1, 5);
        x.rule(2, 20);
        isHad(x, RATE, 5, 0, 0, 0);
        x.road(8, 9);
        // Value 9, T 1, rest 8: dues 5, 1 and 3 by 5.33 and 2.67; an expense of 20 by 5, 1, 3 of 9: 11.11, 2.22, 6.67.
        isHad(x, DUE, 5, 5, 1, 3);
        isHad(x, RATE, 5, 11, 2, 7);
        // At day 4 the rector alone has a due.
        isHad(x, RATE, 4, 0, 20, 0);
        x.rule(2, 0);
        isHad(x, RATE, 4, 0, 0, 0);
        // Value 9: dues 6, 0, 3.
        isHad(x, RATE, 5, 13, 0, 7);
        CHECK.due("expense", x.sum(EXPENSE, 4), 20);
    }

    private static void coin() {
        AwardDesk x = deskOf(3, 2, 1, 1);
        strip(x, 0, 1, 0, 1, 100);
        x.claim(1, 0, 2, 600);
        strip(x, 1, 1, 1, 0, 700);
        isHad(x, DUE, 999, 6, 0);
        // Not known at 599: nothing would be another way.
        isHad(x, COIN, 599, 0, 0);
        // At 600 all 6 would be theirs, and 0 would lose, which is no coin.
        isHad(x, COIN, 600, 0, 18);
        isHad(x, COIN, 700, 0, 18);
        x.rule(0, 600);
        isHad(x, DUE, 999, 0, 6);
        isHad(x, COIN, 999, 0, 0);
        x.rule(0, 0);
        isHad(x, DUE, 999, 0, 0);
        isHad(x, COIN, 599, 18, 0);
        isHad(x, COIN, 999, 0, 18);
    }

    private static void coinOfGatesAndObjections() {
        AwardDesk x = deskOf(5, 2, 1, 1, 1);
        x.claim(0, 110, 1, 10);
        x.claim(1, 110, 1, 510);
        isHad(x, DUE, 510, 10, 0, 0);
        isHad(x, COIN, 510, 0, 15, 0);
        x.withdraw();
        x.withdraw();
        strip(x, 0, 1, 0, 1, 10);
        x.claim(2, 0, 1, 520);
        x.object(2, 0, 530);
        // The objection would be upheld were its claim not late: half of 10, three times.
        isHad(x, COIN, 529, 0, 0, 0);
        isHad(x, COIN, 530, 0, 0, 15);
        CHECK.due("yet it is not upheld", x.upheld(0), 0);
    }

    private static void refused() {
        AwardDesk x = deskOf(3, 2, 1);
        int[] noDays = {-1, 1000, Integer.MIN_VALUE, Integer.MAX_VALUE};
        for (int day : noDays) {
            for (int what = 0; what <= 5; what++) CHECK.due("sum on day " + day, x.sum(what, day), BAD);
            for (int what = 0; what <= 4; what++) CHECK.due("has on day " + day, x.has(0, what, day), BAD);
        }
        int[] noSums = {-1, 6, Integer.MIN_VALUE, Integer.MAX_VALUE};
        for (int what : noSums) CHECK.due("sum " + what, x.sum(what, 0), BAD);
        int[] noWhats = {-1, 5, Integer.MIN_VALUE, Integer.MAX_VALUE};
        for (int what : noWhats) CHECK.due("has " + what, x.has(0, what, 0), BAD);
        int[] noClaimants = {-1, 1, 8, Integer.MIN_VALUE, Integer.MAX_VALUE};
        for (int claimant : noClaimants) CHECK.due("has of " + claimant, x.has(claimant, 0, 0), BAD);
    }
}
