/** Edges of claimants, claims and objections (Terms 2; promises 11 to 18), each under the document's sentence. */
public final class ClaimEdgesTest {
    private static final int NONE = AwardDesk.NONE, BAD = AwardDesk.BAD, NO = AwardDesk.NO, FULL = AwardDesk.FULL;
    private static final int FIELD = 1, CELL = 3, GATES = 4;
    private static final Check CHECK = new Check("ClaimEdgesTest");

    public static void main(String[] args) {
        claimantsAsTheyCome();
        kinds();
        homes();
        theFirstOfAKind();
        claimsAreNumbered();
        stripsAndGates();
        proofsAndDays();
        late();
        known();
        holderIsOfAFieldThatIsPlain();
        holderByProofThenDayThenNumber();
        gatesOfAClaimant();
        withdrawn();
        rules();
        objections();
        upheldAtItsDay();
        upheldAgainstAnother();
        upheldWithAsMuchProof();
        CHECK.end();
    }

    /** Two claimants and a field, CELL. */
    private static AwardDesk desk() {
        AwardDesk x = Village.plain(3, 2, 0, 0);
        x.cell(CELL, 1, FIELD);
        return x;
    }

    private static void claimantsAsTheyCome() {
        CHECK.sentence("CLAIMANTS 0 .. 7 as they come");
        AwardDesk x = new AwardDesk();
        for (int i = 0; i < 8; i++) {
            CHECK.due("isOf of one who is not there yet", x.isOf(i, 0), BAD);
            CHECK.due("claimant " + i, x.claimant(1, 0), i);
            CHECK.due("isOf of one who is there", x.isOf(i, 0), 1);
        }
        CHECK.due("a ninth", x.claimant(1, 0), FULL);
        CHECK.due("a ninth again", x.claimant(4, 29), FULL);
        CHECK.due("eight are there", x.count(0), 8);
        CHECK.due("isOf(8, 0)", x.isOf(8, 0), BAD);
        CHECK.due("isOf(-1, 0)", x.isOf(-1, 0), BAD);
    }

    private static void kinds() {
        CHECK.sentence("(all are CLAIMANTS; LORDS are FREE, too)");
        int[][] want = {{1, 0, 0, 0, 0}, {1, 1, 0, 0, 0}, {1, 0, 1, 0, 0}, {1, 1, 0, 1, 0}, {1, 0, 0, 0, 1}};
        for (int kind = 0; kind < 5; kind++) {
            AwardDesk x = new AwardDesk();
            CHECK.due("claimant of kind " + kind, x.claimant(kind, 0), 0);
            for (int asked = 0; asked < 5; asked++) {
                CHECK.due("kind " + kind + " isOf " + asked, x.isOf(0, asked), want[kind][asked]);
            }
            CHECK.due("isOf kind -1", x.isOf(0, -1), BAD);
            CHECK.due("isOf kind 5", x.isOf(0, 5), BAD);
        }
        AwardDesk x = new AwardDesk();
        CHECK.due("kind -1", x.claimant(-1, 0), BAD);
        CHECK.due("kind 5", x.claimant(5, 0), BAD);
        CHECK.due("no one came", x.count(0), 0);
    }

    private static void homes() {
        CHECK.sentence("each has a HOME, a CELL");
        AwardDesk x = Village.plain(3, 2);
        CHECK.due("home -1", x.claimant(0, -1), BAD);
        CHECK.due("home 6", x.claimant(0, 6), BAD);
        x.cell(5, 1, 2);
        x.cell(5, 2, 1);
        CHECK.due("home 0", x.claimant(0, 0), 0);
        CHECK.due("the last cell, a close and road", x.claimant(0, 5), 1);
        x.allot(0, 5, 12);
        x.allot(1, 0, 12);
        CHECK.due("far from the first", x.plot(0, 4), 3);
        CHECK.due("far from the last", x.plot(1, 4), 3);
    }

    private static void theFirstOfAKind() {
        CHECK.sentence("THE LORD, THE RECTOR: the first of that KIND.");
        AwardDesk x = Village.plain(3, 2, 0);
        int[] kinds = {2, 4, 3, 4, 3};
        for (int kind : kinds) x.claimant(kind, 0);
        x.rule(2, 50);
        Village.strip(x, 0, 1, 1, 1, 0);
        int[] weights = {0, 40, 0, 20, 0, 0}, dues = {0, 2, 3, 1, 0, 0};
        for (int i = 0; i < 6; i++) CHECK.due("weight of " + i, x.has(i, 0, 0), weights[i]);
        for (int i = 0; i < 6; i++) CHECK.due("due of " + i, x.has(i, 1, 0), dues[i]);
        // The very first claimant may be the one.
        AwardDesk y = Village.plain(3, 2);
        int[] lordFirst = {3, 3, 2};
        for (int kind : lordFirst) y.claimant(kind, 0);
        Village.strip(y, 0, 1, 2, 1, 0);
        int[] want = {20, 0, 40};
        for (int i = 0; i < 3; i++) CHECK.due("weight of " + i, y.has(i, 0, 0), want[i]);
    }

    private static void claimsAreNumbered() {
        CHECK.sentence("CLAIMS, 40 at most, numbered from 0");
        AwardDesk x = desk();
        for (int i = 0; i < 40; i++) {
            CHECK.due("claim " + i, x.claim(i % 2, i % 3 == 0 ? 101 + i : CELL, 1, 100 - i), i);
            CHECK.due("count", x.count(1), i + 1);
        }
        CHECK.due("a 41st on a cell", x.claim(0, CELL, 1, 0), FULL);
        CHECK.due("a 41st for gates", x.claim(0, 101, 1, 0), FULL);
        CHECK.due("40", x.count(1), 40);
        // The last one is for gates; of those on the cell 38 has the least day.
        CHECK.due("the last but one holds", x.holder(CELL, 999), 38);
        CHECK.due("and the last one counts", x.has(1, GATES, 61), 40);
    }

    private static void stripsAndGates() {
        CHECK.sentence("a CELL (a STRIP) or a number of GATES (1 .. 50)");
        int[] sound = {0, 5, 101, 150}, wrong = {-1, 6, 79, 80, 99, 100, 151, 200, Integer.MIN_VALUE, Integer.MAX_VALUE};
        for (int what : sound) CHECK.due("what " + what, desk().claim(0, what, 1, 0), 0);
        for (int what : wrong) {
            AwardDesk x = desk();
            CHECK.due("what " + what, x.claim(0, what, 1, 0), BAD);
            CHECK.due("no claim", x.count(1), 0);
        }
        AwardDesk x = Village.plain(10, 8, 0);
        CHECK.due("the last cell of the largest land", x.claim(0, 79, 1, 0), 0);
        CHECK.due("one more", x.claim(0, 80, 1, 0), BAD);
        CHECK.due("a strip is no gate", x.has(0, GATES, 0), 0);
        x.claim(0, 101, 1, 1);
        CHECK.due("the fewest gates", x.has(0, GATES, 1), 1);
        x.claim(0, 150, 1, 2);
        CHECK.due("the most gates", x.has(0, GATES, 2), 50);
    }

    private static void proofsAndDays() {
        CHECK.sentence("a PROOF 0 .. 3, a DAY 0 .. 999");
        int[][] wrong = {{-1, 0}, {4, 0}, {0, -1}, {0, 1000}};
        for (int[] w : wrong) {
            AwardDesk x = desk();
            CHECK.due("proof " + w[0] + ", day " + w[1], x.claim(0, CELL, w[0], w[1]), BAD);
            CHECK.due("no claim", x.count(1), 0);
        }
        AwardDesk x = desk();
        x.rule(0, 999);
        CHECK.due("the least of both", x.claim(0, CELL, 0, 0), 0);
        CHECK.due("it holds on day 0", x.holder(CELL, 0), 0);
        CHECK.due("the most of both", x.claim(1, CELL, 3, 999), 1);
        CHECK.due("it does not hold on day 998", x.holder(CELL, 998), 0);
        CHECK.due("it holds on day 999", x.holder(CELL, 999), 1);
    }

    private static void late() {
        CHECK.sentence("THE CLOSING is a DAY (500 at first). LATE is a CLAIM of a DAY behind THE CLOSING.");
        AwardDesk x = desk();
        x.claim(0, CELL, 1, 500);
        CHECK.due("day 500 is not late", x.count(2), 0);
        x.claim(1, CELL, 3, 501);
        CHECK.due("day 501 is", x.count(2), 1);
        CHECK.due("a late claim does not hold", x.holder(CELL, 999), 0);
        x.rule(0, 501);
        CHECK.due("no longer late", x.count(2), 0);
        CHECK.due("so it holds", x.holder(CELL, 999), 1);
        x.rule(0, 499);
        CHECK.due("both are late", x.count(2), 2);
        CHECK.due("none holds", x.holder(CELL, 999), NONE);
        AwardDesk y = desk();
        y.claim(0, CELL, 1, 0);
        y.claim(0, CELL, 1, 1);
        y.rule(0, 0);
        CHECK.due("a closing on day 0", y.count(2), 1);
        CHECK.due("day 0 is not behind it", y.holder(CELL, 999), 0);
        y.claim(0, CELL, 3, 999);
        y.rule(0, 999);
        CHECK.due("a closing on day 999: none is late", y.count(2), 0);
        y.rule(0, 998);
        CHECK.due("a closing on day 998", y.count(2), 1);
    }

    private static void known() {
        CHECK.sentence("KNOWN at a DAY t are CLAIMS of a DAY not behind t.");
        AwardDesk x = desk();
        x.claim(0, CELL, 1, 100);
        x.claim(0, 105, 1, 100);
        CHECK.due("a day ahead", x.holder(CELL, 99), NONE);
        CHECK.due("on the day", x.holder(CELL, 100), 0);
        CHECK.due("gates a day ahead", x.has(0, GATES, 99), 0);
        CHECK.due("gates on the day", x.has(0, GATES, 100), 5);
    }

    private static void holderIsOfAFieldThatIsPlain() {
        CHECK.sentence("THE HOLDER of a CELL that is FIELD and PLAIN");
        AwardDesk x = desk();
        CHECK.due("without a claim", x.holder(CELL, 999), NONE);
        x.claim(0, CELL, 3, 0);
        CHECK.due("a field", x.holder(CELL, 0), 0);
        x.cell(CELL, 2, 1);
        CHECK.due("a field that is road", x.holder(CELL, 0), NONE);
        x.cell(CELL, 2, 0);
        x.cell(CELL, 1, 0);
        CHECK.due("common", x.holder(CELL, 0), NONE);
        x.cell(CELL, 1, 2);
        CHECK.due("a close", x.holder(CELL, 0), NONE);
        CHECK.sentence("THE HOLDER of a CELL at a DAY, the CLAIM's number; NONE. BAD.");
        CHECK.due("holder(-1, 0)", x.holder(-1, 0), BAD);
        CHECK.due("holder(6, 0)", x.holder(6, 0), BAD);
        CHECK.due("holder(0, -1)", x.holder(0, -1), BAD);
        CHECK.due("holder(0, 1000)", x.holder(0, 1000), BAD);
        CHECK.due("BAD, not NONE, of a close on no day", x.holder(CELL, 1000), BAD);
        CHECK.due("gates are no cell", x.holder(101, 0), BAD);
    }

    private static void holderByProofThenDayThenNumber() {
        CHECK.sentence("that with the greatest PROOF, of these of the least DAY, of these the first");
        AwardDesk x = desk();
        x.claim(0, CELL, 0, 10);
        CHECK.due("a proof of 0, alone", x.holder(CELL, 10), 0);
        x.claim(1, CELL, 0, 10);
        CHECK.due("a like one behind it", x.holder(CELL, 10), 0);
        x.claim(1, CELL, 0, 9);
        CHECK.due("a lesser day", x.holder(CELL, 10), 2);
        x.claim(0, CELL, 1, 11);
        CHECK.due("more proof, a later day", x.holder(CELL, 11), 3);
        CHECK.due("ahead of that day", x.holder(CELL, 10), 2);
        x.claim(1, CELL, 0, 0);
        CHECK.due("less proof, a lesser day", x.holder(CELL, 11), 3);
        x.claim(1, CELL, 3, 501);
        CHECK.due("the greatest proof is late", x.holder(CELL, 999), 3);
        x.claim(1, CELL - 1, 3, 0);
        CHECK.due("on another cell", x.holder(CELL, 999), 3);
        x.claim(1, 100 + CELL, 3, 0);
        CHECK.due("for as many gates", x.holder(CELL, 999), 3);
    }

    private static void gatesOfAClaimant() {
        CHECK.sentence("the most of any CLAIM for GATES of theirs, KNOWN, not LATE, with a PROOF above 0; else 0");
        AwardDesk x = desk();
        CHECK.due("without a claim", x.has(0, GATES, 999), 0);
        x.claim(0, 150, 0, 10);
        CHECK.due("a proof of 0", x.has(0, GATES, 999), 0);
        x.claim(0, 107, 1, 10);
        CHECK.due("a proof of 1", x.has(0, GATES, 999), 7);
        x.claim(0, 106, 3, 10);
        CHECK.due("fewer with more proof", x.has(0, GATES, 999), 7);
        x.claim(0, 108, 1, 501);
        CHECK.due("more, but late", x.has(0, GATES, 999), 7);
        x.claim(0, 108, 1, 500);
        CHECK.due("more, just not late", x.has(0, GATES, 500), 8);
        CHECK.due("not known yet", x.has(0, GATES, 499), 7);
        x.claim(1, 150, 3, 0);
        CHECK.due("another one's", x.has(0, GATES, 999), 8);
        CHECK.due("their own", x.has(1, GATES, 0), 50);
    }

    private static void withdrawn() {
        CHECK.sentence("The last CLAIM is no more: how many there are. NO.");
        AwardDesk x = desk();
        CHECK.due("none at first", x.withdraw(), NO);
        x.claim(0, CELL, 1, 10);
        x.claim(1, CELL, 2, 501);
        CHECK.due("the last of two", x.withdraw(), 1);
        CHECK.due("no late one any more", x.count(2), 0);
        CHECK.due("the first holds", x.holder(CELL, 10), 0);
        CHECK.due("the last of one", x.withdraw(), 0);
        CHECK.due("none holds", x.holder(CELL, 10), NONE);
        CHECK.due("none is left", x.withdraw(), NO);
        CHECK.due("none still", x.count(1), 0);
        CHECK.due("numbers from 0 again", x.claim(1, CELL, 0, 10), 0);
        AwardDesk y = Village.full();
        CHECK.due("of 40", y.withdraw(), 39);
        CHECK.due("room for one", y.claim(0, 0, 0, 0), 39);
        CHECK.due("and no more", y.claim(0, 0, 0, 0), FULL);
        for (int left = 39; left >= 0; left--) CHECK.due("down to none", y.withdraw(), left);
        CHECK.due("and no further", y.withdraw(), NO);
        CHECK.due("objections stay", y.count(3), 20);
    }

    private static void rules() {
        CHECK.sentence("THE CLOSING (which 0), THE LIMIT (1; 0 .. 999 both), THE TITHE (2), SOLD (3; 0 .. 1000), SLACK (4) becomes v: what it was. BAD.");
        int[] first = {500, 900, 0, 0, 2}, most = {999, 999, 50, 1000, 50};
        for (int which = 0; which < 5; which++) {
            AwardDesk x = new AwardDesk();
            CHECK.due("rule " + which + " of -1", x.rule(which, -1), BAD);
            CHECK.due("rule " + which + " of one too many", x.rule(which, most[which] + 1), BAD);
            CHECK.due("what it was at first", x.rule(which, most[which]), first[which]);
            CHECK.due("the most", x.rule(which, 0), most[which]);
            CHECK.due("0", x.rule(which, 1), 0);
            for (int other = 0; other < 5; other++) {
                if (other != which) CHECK.due("the others stay", x.rule(other, first[other]), first[other]);
            }
        }
        CHECK.due("rule -1", new AwardDesk().rule(-1, 0), BAD);
        CHECK.due("rule 5", new AwardDesk().rule(5, 0), BAD);
    }

    private static void objections() {
        CHECK.sentence("OBJECTIONS, 20 at most: a CLAIMANT, a CELL, a DAY.");
        AwardDesk x = desk();
        int[][] wrong = {{-1, 0, 0}, {2, 0, 0}, {0, -1, 0}, {0, 6, 0}, {0, 101, 0}, {0, 0, -1}, {0, 0, 1000}};
        for (int[] w : wrong) CHECK.due("object(" + w[0] + ", " + w[1] + ", " + w[2] + ")", x.object(w[0], w[1], w[2]), BAD);
        CHECK.due("none", x.count(3), 0);
        for (int i = 0; i < 20; i++) {
            CHECK.due("upheld of one that is not there yet", x.upheld(i), BAD);
            CHECK.due("objection " + i, x.object(i % 2, i % 6, i % 2 * 999), i);
            CHECK.due("upheld of one that is there", x.upheld(i), 0);
        }
        CHECK.due("a 21st", x.object(0, 0, 0), FULL);
        CHECK.due("20", x.count(3), 20);
        CHECK.sentence("Whether an OBJECTION is UPHELD: 1, 0. BAD.");
        CHECK.due("upheld(20)", x.upheld(20), BAD);
        CHECK.due("upheld(-1)", x.upheld(-1), BAD);
        CHECK.due("upheld of none", new AwardDesk().upheld(0), BAD);
        AwardDesk y = desk();
        y.claim(0, CELL, 1, 0);
        y.claim(1, CELL, 1, 0);
        for (int i = 0; i < 19; i++) y.object(0, CELL, 0);
        y.object(1, CELL, 0);
        CHECK.due("the last of 20 is upheld", y.upheld(19), 1);
        CHECK.due("the one ahead is not", y.upheld(18), 0);
    }

    private static void upheldAtItsDay() {
        CHECK.sentence("It is UPHELD if, at its DAY, the CELL's HOLDER is a CLAIM of another CLAIMANT");
        AwardDesk x = desk();
        x.claim(0, CELL, 1, 100);
        x.claim(1, CELL, 1, 101);
        x.object(1, CELL, 99);
        x.object(1, CELL, 100);
        x.object(1, CELL, 101);
        x.object(1, CELL, 999);
        CHECK.due("no holder then", x.upheld(0), 0);
        CHECK.due("their own claim was not known then", x.upheld(1), 0);
        CHECK.due("both were known", x.upheld(2), 1);
        CHECK.due("long behind", x.upheld(3), 1);
        x.claim(0, CELL, 2, 102);
        CHECK.due("more proof came a day later", x.upheld(2), 1);
        CHECK.due("but was known long behind", x.upheld(3), 0);
        x.cell(CELL, 2, 1);
        CHECK.due("no holder of a road", x.upheld(2), 0);
        x.cell(CELL, 2, 0);
        x.cell(CELL, 1, 0);
        CHECK.due("no holder of common", x.upheld(2), 0);
        x.cell(CELL, 1, 1);
        CHECK.due("a field again", x.upheld(2), 1);
    }

    private static void upheldAgainstAnother() {
        CHECK.sentence("the CELL's HOLDER is a CLAIM of another CLAIMANT");
        AwardDesk x = desk();
        x.claim(0, CELL, 1, 10);
        x.claim(0, CELL, 1, 11);
        x.object(0, CELL, 20);
        CHECK.due("against a claim of one's own, with another one", x.upheld(0), 0);
        x.claim(1, CELL, 1, 9);
        CHECK.due("another one holds now", x.upheld(0), 1);
        x.object(1, CELL, 20);
        CHECK.due("they hold it themselves", x.upheld(1), 0);
        AwardDesk y = desk();
        y.claim(0, CELL, 1, 11);
        y.claim(1, CELL, 1, 10);
        y.object(0, CELL, 11);
        CHECK.due("by the very first claim", y.upheld(0), 1);
    }

    private static void upheldWithAsMuchProof() {
        CHECK.sentence("the objector has a CLAIM on the CELL, KNOWN then, not LATE, with as much PROOF");
        int[] sound = {0, 1, 2, 3};
        for (int proof : sound) {
            AwardDesk x = desk();
            x.claim(0, CELL, proof, 10);
            x.object(1, CELL, 600);
            CHECK.due("without a claim", x.upheld(0), 0);
            if (proof > 0) x.claim(1, CELL, proof - 1, 10);
            CHECK.due("with less proof than " + proof, x.upheld(0), 0);
            x.claim(1, CELL - 1, 3, 10);
            x.claim(1, 101 + CELL, 3, 10);
            CHECK.due("on another cell, for gates", x.upheld(0), 0);
            x.claim(1, CELL, proof, 501);
            CHECK.due("late", x.upheld(0), 0);
            x.rule(0, 501);
            CHECK.due("not late", x.upheld(0), 1);
            x.withdraw();
            x.rule(0, 999);
            x.claim(1, CELL, proof, 601);
            CHECK.due("not known then", x.upheld(0), 0);
            x.withdraw();
            x.claim(1, CELL, proof, 600);
            CHECK.due("known just then", x.upheld(0), 1);
        }
    }
}
