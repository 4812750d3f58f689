/** Promises 11 to 18: claimant, isOf, claim, withdraw, rule, object, upheld, holder. */
public final class ClaimsTest {
    private static final int NONE = AwardDesk.NONE, BAD = AwardDesk.BAD, NO = AwardDesk.NO, FULL = AwardDesk.FULL;
    private static final int LEAST = Integer.MIN_VALUE, MOST = Integer.MAX_VALUE;
    private static final Check CHECK = new Check("ClaimsTest");

    public static void main(String[] args) {
        claimant();
        isOf();
        claim();
        withdraw();
        rule();
        object();
        holderByProofDayNumber();
        holderByCellAndClosing();
        upheld();
        upheldByWhatWasKnown();
        CHECK.end();
    }

    private static void claimant() {
        AwardDesk x = new AwardDesk();
        int[] noKinds = {-1, 5, LEAST, MOST};
        for (int kind : noKinds) CHECK.due("kind " + kind, x.claimant(kind, 0), BAD);
        int[] noCells = {-1, 30, LEAST, MOST};
        for (int home : noCells) CHECK.due("home " + home, x.claimant(0, home), BAD);
        for (int i = 0; i < 8; i++) CHECK.due("claimant " + i, x.claimant(i % 5, 29 - i), i);
        CHECK.due("a ninth", x.claimant(0, 0), FULL);
        CHECK.due("BAD stands ahead of FULL", x.claimant(5, 0), BAD);
        CHECK.due("BAD stands ahead of FULL", x.claimant(0, 30), BAD);
        CHECK.due("count", x.count(0), 8);
        // The home is kept: each has a plot of one cell at it.
        for (int i = 0; i < 8; i++) {
            x.allot(i, 29 - i, 12);
            CHECK.due("far " + i, x.plot(i, 4), 0);
        }
    }

    private static void isOf() {
        AwardDesk x = new AwardDesk();
        int[][] want = {{1, 0, 0, 0, 0}, {1, 1, 0, 0, 0}, {1, 0, 1, 0, 0}, {1, 1, 0, 1, 0}, {1, 0, 0, 0, 1}};
        for (int kind = 0; kind < 5; kind++) x.claimant(kind, 0);
        for (int i = 0; i < 5; i++) {
            for (int kind = 0; kind < 5; kind++) CHECK.due("isOf(" + i + ", " + kind + ")", x.isOf(i, kind), want[i][kind]);
            CHECK.due("kind -1", x.isOf(i, -1), BAD);
            CHECK.due("kind 5", x.isOf(i, 5), BAD);
        }
        CHECK.due("claimant 5", x.isOf(5, 0), BAD);
        CHECK.due("claimant -1", x.isOf(-1, 0), BAD);
        CHECK.due("claimant the most", x.isOf(MOST, 0), BAD);
    }

    private static void claim() {
        AwardDesk x = new AwardDesk();
        x.claimant(0, 0);
        int[][] wrong = {{-1, 0, 0, 0}, {1, 0, 0, 0}, {0, -1, 0, 0}, {0, 30, 0, 0}, {0, 99, 0, 0}, {0, 100, 0, 0},
            {0, 151, 0, 0}, {0, 0, -1, 0}, {0, 0, 4, 0}, {0, 0, 0, -1}, {0, 0, 0, 1000}, {MOST, MOST, MOST, MOST},
            {LEAST, 0, 0, 0}, {0, LEAST, 0, 0}, {0, 0, LEAST, 0}, {0, 0, 0, LEAST}};
        for (int[] w : wrong) {
            CHECK.due("claim(" + w[0] + ", " + w[1] + ", " + w[2] + ", " + w[3] + ")", x.claim(w[0], w[1], w[2], w[3]), BAD);
        }
        CHECK.due("no claims", x.count(1), 0);
        CHECK.due("the least", x.claim(0, 0, 0, 0), 0);
        CHECK.due("the most", x.claim(0, 29, 3, 999), 1);
        CHECK.due("one gate", x.claim(0, 101, 1, 5), 2);
        CHECK.due("fifty gates", x.claim(0, 150, 1, 6), 3);
        CHECK.due("gates", x.has(0, 4, 5), 1);
        CHECK.due("gates", x.has(0, 4, 6), 50);
        for (int i = 4; i < 40; i++) CHECK.due("claim " + i, x.claim(0, 1, 1, i), i);
        CHECK.due("a 41st", x.claim(0, 1, 1, 1), FULL);
        for (int[] w : wrong) CHECK.due("BAD stands ahead of FULL", x.claim(w[0], w[1], w[2], w[3]), BAD);
        CHECK.due("count", x.count(1), 40);
        CHECK.due("one is late", x.count(2), 1);
        x.rule(0, 998);
        CHECK.due("one is behind day 998", x.count(2), 1);
        x.rule(0, 999);
        CHECK.due("none is behind day 999", x.count(2), 0);
        x.rule(0, 38);
        CHECK.due("days 39 and 999 are behind 38", x.count(2), 2);
        AwardDesk y = new AwardDesk();
        y.claimant(0, 0);
        y.claim(0, 0, 0, 501);
        CHECK.due("the first is late", y.count(2), 1);
    }

    private static void withdraw() {
        AwardDesk x = new AwardDesk();
        CHECK.due("none", x.withdraw(), NO);
        x.claimant(0, 0);
        x.cell(3, 1, 1);
        x.claimant(0, 0);
        x.claim(0, 3, 1, 10);
        x.claim(1, 3, 1, 11);
        x.object(1, 3, 11);
        CHECK.due("upheld", x.upheld(0), 1);
        x.withdraw();
        CHECK.due("not by a claim that is no more", x.upheld(0), 0);
        x.claim(0, 3, 2, 10);
        CHECK.due("the second holds", x.holder(3, 10), 1);
        CHECK.due("one left", x.withdraw(), 1);
        CHECK.due("the first holds", x.holder(3, 10), 0);
        CHECK.due("none left", x.withdraw(), 0);
        CHECK.due("none holds", x.holder(3, 10), NONE);
        CHECK.due("none to withdraw", x.withdraw(), NO);
        CHECK.due("numbered from 0 again", x.claim(0, 3, 1, 11), 0);
        for (int i = 1; i < 40; i++) x.claim(0, 3, 1, 11);
        CHECK.due("full", x.claim(0, 3, 1, 11), FULL);
        CHECK.due("39 left", x.withdraw(), 39);
        CHECK.due("room again", x.claim(0, 3, 1, 11), 39);
    }

    private static void rule() {
        AwardDesk x = new AwardDesk();
        int[] first = {500, 900, 0, 0, 2}, most = {999, 999, 50, 1000, 50};
        for (int which = 0; which < 5; which++) {
            CHECK.due("above the most", x.rule(which, most[which] + 1), BAD);
            CHECK.due("below 0", x.rule(which, -1), BAD);
            CHECK.due("the most int", x.rule(which, MOST), BAD);
            CHECK.due("the least int", x.rule(which, LEAST), BAD);
            CHECK.due("at first", x.rule(which, most[which]), first[which]);
            CHECK.due("the most", x.rule(which, 0), most[which]);
            CHECK.due("the least", x.rule(which, first[which]), 0);
        }
        int[] noRules = {-1, 5, LEAST, MOST};
        for (int which : noRules) CHECK.due("rule " + which, x.rule(which, 0), BAD);
    }

    private static void object() {
        AwardDesk x = new AwardDesk();
        x.claimant(0, 0);
        int[][] wrong = {{-1, 0, 0}, {1, 0, 0}, {0, -1, 0}, {0, 30, 0}, {0, 101, 0}, {0, 0, -1}, {0, 0, 1000},
            {LEAST, 0, 0}, {0, MOST, 0}, {0, 0, MOST}};
        for (int[] w : wrong) CHECK.due("object", x.object(w[0], w[1], w[2]), BAD);
        CHECK.due("none", x.count(3), 0);
        for (int i = 0; i < 20; i++) CHECK.due("objection " + i, x.object(0, 29, 999), i);
        CHECK.due("a 21st", x.object(0, 0, 0), FULL);
        for (int[] w : wrong) CHECK.due("BAD stands ahead of FULL", x.object(w[0], w[1], w[2]), BAD);
        CHECK.due("count", x.count(3), 20);
        CHECK.due("upheld(19)", x.upheld(19), 0);
        CHECK.due("upheld(20)", x.upheld(20), BAD);
        CHECK.due("upheld(-1)", x.upheld(-1), BAD);
        CHECK.due("upheld(the most)", x.upheld(MOST), BAD);
    }

    private static void holderByProofDayNumber() {
        AwardDesk x = new AwardDesk();
        x.claimant(0, 0);
        x.claimant(0, 0);
        x.cell(3, 1, 1);
        CHECK.due("no claim", x.holder(3, 999), NONE);
        x.claim(0, 3, 0, 50);
        CHECK.due("a proof of 0 holds", x.holder(3, 50), 0);
        CHECK.due("but not ahead of its day", x.holder(3, 49), NONE);
        x.claim(1, 3, 1, 60);
        CHECK.due("not known at 59", x.holder(3, 59), 0);
        CHECK.due("more proof at 60", x.holder(3, 60), 1);
        x.claim(0, 3, 1, 55);
        CHECK.due("a lesser day of like proof", x.holder(3, 60), 2);
        x.claim(1, 3, 1, 55);
        CHECK.due("of like ones the first", x.holder(3, 60), 2);
        x.claim(1, 4, 3, 1);
        x.claim(1, 103, 3, 1);
        CHECK.due("other cells and gates are of no matter", x.holder(3, 60), 2);
        CHECK.due("cell 4 is no field", x.holder(4, 60), NONE);
    }

    private static void holderByCellAndClosing() {
        AwardDesk x = new AwardDesk();
        x.claimant(0, 0);
        x.claim(0, 3, 3, 501);
        x.claim(0, 3, 1, 500);
        CHECK.due("common", x.holder(3, 999), NONE);
        x.cell(3, 1, 1);
        CHECK.due("501 is late, 500 is not", x.holder(3, 999), 1);
        x.rule(0, 501);
        CHECK.due("501 is not late now", x.holder(3, 999), 0);
        x.rule(0, 499);
        CHECK.due("both are late", x.holder(3, 999), NONE);
        x.rule(0, 999);
        x.cell(3, 2, 1);
        CHECK.due("a road", x.holder(3, 999), NONE);
        x.cell(3, 2, 0);
        x.cell(3, 1, 2);
        CHECK.due("a close", x.holder(3, 999), NONE);
        x.cell(3, 1, 1);
        CHECK.due("a field again", x.holder(3, 999), 0);
        int[] noCells = {-1, 30, LEAST, MOST};
        for (int cell : noCells) CHECK.due("cell " + cell, x.holder(cell, 0), BAD);
        int[] noDays = {-1, 1000, LEAST, MOST};
        for (int day : noDays) CHECK.due("day " + day, x.holder(3, day), BAD);
    }

    private static void upheld() {
        AwardDesk x = new AwardDesk();
        x.claimant(0, 0);
        x.claimant(0, 0);
        x.cell(3, 1, 1);
        x.claim(0, 3, 2, 50);
        x.claim(1, 3, 1, 40);
        x.object(1, 3, 100);
        CHECK.due("less proof", x.upheld(0), 0);
        x.claim(1, 4, 3, 40);
        x.claim(1, 102, 3, 40);
        CHECK.due("proof of other things", x.upheld(0), 0);
        x.claim(1, 3, 2, 60);
        CHECK.due("as much proof", x.upheld(0), 1);
        x.object(0, 3, 100);
        CHECK.due("against a claim of one's own", x.upheld(1), 0);
        x.object(1, 4, 100);
        CHECK.due("on a cell that is no field", x.upheld(2), 0);
        x.cell(3, 1, 0);
        CHECK.due("no field any more", x.upheld(0), 0);
        x.cell(3, 1, 1);
        x.rule(0, 59);
        CHECK.due("the objector's claim is late", x.upheld(0), 0);
        x.rule(0, 60);
        CHECK.due("it is not late", x.upheld(0), 1);
        // Claimant 1 holds now by a lesser day, so claimant 0 may object, and claimant 1 no longer.
        x.claim(1, 3, 2, 49);
        CHECK.due("the objector holds", x.upheld(0), 0);
        CHECK.due("the other one's is upheld", x.upheld(1), 1);
    }

    private static void upheldByWhatWasKnown() {
        AwardDesk x = new AwardDesk();
        x.claimant(0, 0);
        x.claimant(0, 0);
        x.cell(3, 1, 1);
        x.claim(0, 3, 1, 50);
        x.claim(1, 3, 1, 60);
        x.object(1, 3, 49);
        x.object(1, 3, 59);
        x.object(1, 3, 60);
        CHECK.due("no holder was known", x.upheld(0), 0);
        CHECK.due("the objector's claim was not known", x.upheld(1), 0);
        CHECK.due("both were known", x.upheld(2), 1);
        x.claim(0, 3, 3, 61);
        CHECK.due("what came behind is of no matter", x.upheld(2), 1);
        x.claim(0, 3, 3, 60);
        CHECK.due("what came on that day is", x.upheld(2), 0);
    }
}
