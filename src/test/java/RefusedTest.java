import java.util.function.Supplier;
import java.util.function.ToIntFunction;

/**
 * "A call that is refused answers one of BAD, NO, FULL, SPENT, or a FINDING, of several the one that stands first with it,
 * and changes nothing." BAD is in BoundsTest, as each argument has bounds; here are the others, and which stands first.
 */
public final class RefusedTest {
    private static final int NONE = AwardDesk.NONE, BAD = AwardDesk.BAD, NO = AwardDesk.NO, FULL = AwardDesk.FULL;
    private static final int SPENT = AwardDesk.SPENT, NOTHING = AwardDesk.NOTHING;
    private static final int INDEX = AwardDesk.INDEX, SIZE = AwardDesk.SIZE;
    private static final int LEAST = Integer.MIN_VALUE, MOST = Integer.MAX_VALUE;
    private static final Check CHECK = new Check("RefusedTest");

    public static void main(String[] args) {
        missingSurveys();
        placesOfSurveys();
        unlikeWidths();
        noSoils();
        noWays();
        nothingToWithdraw();
        full();
        spentAndImpossible();
        noClaimants();
        badStandsFirst();
        laterOnesStandInTurn();
        questionsChangeNothing();
        CHECK.end();
    }

    private static void refused(Supplier<AwardDesk> desk, String call, int want, ToIntFunction<AwardDesk> ask) {
        Snapshot.refused(CHECK, desk, call, ask, want);
    }

    private static void refused(String call, int want, ToIntFunction<AwardDesk> ask) {
        refused(Village::lively, call, want, ask);
    }

    private static void missingSurveys() {
        CHECK.sentence("NOTHING: a SURVEY is MISSING");
        refused("lose(2)", NOTHING, x -> x.lose(2));
        refused("mark(2, 0, 1)", NOTHING, x -> x.mark(2, 0, 1));
        refused("read(2)", NOTHING, x -> x.read(2));
        CHECK.sentence("NOTHING: one is MISSING");
        refused("from a missing one", NOTHING, x -> x.copy(2, 0, 0, 0, 1));
        refused("to a missing one", NOTHING, x -> x.copy(0, 0, 2, 0, 1));
        refused("a missing one onto itself", NOTHING, x -> x.copy(2, 0, 2, 0, 0));
        refused("none moved from a missing one", NOTHING, x -> x.copy(2, 0, 0, 0, 0));
    }

    private static void placesOfSurveys() {
        CHECK.sentence("INDEX: there is no such place");
        refused("mark ahead of the first place", INDEX, x -> x.mark(0, -1, 1));
        refused("mark behind the last place", INDEX, x -> x.mark(0, 5, 1));
        refused("mark of the least place", INDEX, x -> x.mark(0, LEAST, 1));
        refused("mark of the most place", INDEX, x -> x.mark(0, MOST, 1));
        refused("copy ahead of the first place", INDEX, x -> x.copy(0, -1, 0, 1, 2));
        refused("copy to ahead of the first place", INDEX, x -> x.copy(0, 1, 0, -1, 2));
        refused("copy of more than there are", INDEX, x -> x.copy(0, 0, 0, 0, 6));
        refused("copy over the end", INDEX, x -> x.copy(0, 3, 0, 0, 3));
        refused("copy to over the end", INDEX, x -> x.copy(0, 0, 0, 3, 3));
        refused("copy of fewer than none", INDEX, x -> x.copy(0, 0, 0, 1, -1));
        refused("place and many wrap around", INDEX, x -> x.copy(0, 2, 0, 0, MOST));
        refused("at and many wrap around", INDEX, x -> x.copy(0, 0, 0, 2, MOST));
        refused("the most place", INDEX, x -> x.copy(0, MOST, 0, 0, 1));
        refused("to the most place", INDEX, x -> x.copy(0, 0, 0, MOST, 1));
        CHECK.sentence("SIZE: a number of places is below 0");
        refused("survey of -1 places", SIZE, x -> x.survey(0, 0, -1));
        refused("survey of the least places", SIZE, x -> x.survey(0, 0, LEAST));
        refused("a missing one of -1 places", SIZE, x -> x.survey(2, 2, -1));
    }

    private static void unlikeWidths() {
        CHECK.sentence("NO: unlike WIDTHS");
        refused("bytes to shorts", NO, x -> x.copy(0, 0, 1, 0, 1));
        refused("shorts to bytes", NO, x -> x.copy(1, 0, 0, 0, 1));
        refused("bytes to shorts, none", NO, x -> x.copy(0, 0, 1, 0, 0));
        Supplier<AwardDesk> ints = () -> {
            AwardDesk x = Village.lively();
            x.survey(2, 2, 4);
            return x;
        };
        refused(ints, "ints to bytes", NO, x -> x.copy(2, 0, 0, 0, 1));
        refused(ints, "shorts to ints", NO, x -> x.copy(1, 0, 2, 0, 1));
    }

    private static void noSoils() {
        CHECK.sentence("NO: one of these is not 0 .. 9");
        int[] wrong = {10, -1, 127, -128};
        for (int v : wrong) {
            Supplier<AwardDesk> marked = () -> {
                AwardDesk x = Village.lively();
                x.mark(0, 4, v);
                return x;
            };
            CHECK.due("read of a soil of " + v, marked.get().read(0), NO);
            AwardDesk x = marked.get();
            x.read(0);
            CHECK.due("the soil ahead of it is as it was", x.told(0, 0), 1);
        }
        refused("a soil of 300", NO, x -> x.read(1));
    }

    private static void noWays() {
        CHECK.sentence("NO: one of both is CLOSE, or there is no way");
        refused("from a close", NO, x -> x.road(5, 0));
        refused("to a close", NO, x -> x.road(0, 5));
        Supplier<AwardDesk> shut = () -> {
            AwardDesk x = Village.lively();
            x.cell(1, 1, 2);
            x.cell(4, 1, 2);
            return x;
        };
        refused(shut, "out of a corner that is shut", NO, x -> x.road(0, 3));
        refused(shut, "into a corner that is shut", NO, x -> x.road(3, 0));
    }

    private static void nothingToWithdraw() {
        CHECK.sentence("The last CLAIM is no more: how many there are. NO.");
        refused(AwardDesk::new, "withdraw of none", NO, AwardDesk::withdraw);
        refused(() -> Village.plain(3, 2, 0), "withdraw of none of one claimant", NO, AwardDesk::withdraw);
    }

    private static void full() {
        CHECK.sentence("One more CLAIMANT: their number. BAD; FULL.");
        refused(Village::full, "a ninth claimant", FULL, x -> x.claimant(0, 0));
        CHECK.sentence("BAD: claimant, what, proof, day; FULL.");
        refused(Village::full, "a 41st claim on a cell", FULL, x -> x.claim(0, 0, 0, 0));
        refused(Village::full, "a 41st claim for gates", FULL, x -> x.claim(0, 101, 0, 0));
        CHECK.sentence("One more OBJECTION: its number. BAD; FULL.");
        refused(Village::full, "a 21st objection", FULL, x -> x.object(0, 0, 0));
    }

    /** Two claimants with a due of 2 each, crossed homes, plots that are not good: five tries, as DrawTest tells. */
    private static AwardDesk crossed() {
        AwardDesk x = Village.plain(4, 2, 2, 1);
        for (int cell = 4; cell < 8; cell++) x.cell(cell, 2, 1);
        Village.strip(x, 0, 1, 0, 1, 10);
        Village.strip(x, 1, 1, 1, 1, 10);
        x.rule(4, 0);
        x.allot(0, 1, 12);
        x.allot(1, 3, 12);
        x.hedge(1, 40);
        return x;
    }

    private static void spentAndImpossible() {
        CHECK.sentence("SPENT (all stays)");
        for (int tries = 1; tries <= 4; tries++) {
            int most = tries;
            refused(RefusedTest::crossed, "draw with " + tries, SPENT, x -> x.draw(10, most, 0));
            refused(RefusedTest::crossed, "draw with " + tries + ", still", SPENT, x -> x.draw(10, most, 1));
        }
        CHECK.due("draw with 5", crossed().draw(10, 5, 0), 0);
        CHECK.sentence("NONE: there is no such way (all stays)");
        Supplier<AwardDesk> noRoad = () -> {
            AwardDesk x = crossed();
            for (int cell = 4; cell < 8; cell++) x.cell(cell, 2, 0);
            return x;
        };
        refused(noRoad, "draw without a road", NONE, x -> x.draw(10, 1, 0));
        Supplier<AwardDesk> apart = () -> {
            AwardDesk x = crossed();
            x.cell(2, 1, 2);
            x.cell(3, 1, 2);
            x.cell(0, 0, 2);
            x.cell(1, 0, 2);
            x.rule(3, 1);
            return x;
        };
        // There are two cells of 2, and none of 1.
        CHECK.due("dues", apart.get().has(0, 1, 10) * 10 + apart.get().has(1, 1, 10), 21);
        refused(apart, "draw where one finds a plot and one does not", NONE, x -> x.draw(10, 20000, 1));
    }

    private static void noClaimants() {
        CHECK.sentence("All as at first; no CLAIMANTS, CLAIMS, OBJECTIONS.");
        refused(AwardDesk::new, "isOf", BAD, x -> x.isOf(0, 0));
        refused(AwardDesk::new, "claim", BAD, x -> x.claim(0, 0, 0, 0));
        refused(AwardDesk::new, "object", BAD, x -> x.object(0, 0, 0));
        refused(AwardDesk::new, "upheld", BAD, x -> x.upheld(0));
        refused(AwardDesk::new, "has", BAD, x -> x.has(0, 0, 0));
        refused(AwardDesk::new, "allot", BAD, x -> x.allot(0, 0, 12));
        refused(AwardDesk::new, "take", BAD, x -> x.take(0));
        refused(AwardDesk::new, "good", BAD, x -> x.good(0, 0));
        refused(AwardDesk::new, "plot", BAD, x -> x.plot(0, 0));
        refused(AwardDesk::new, "hedge", BAD, x -> x.hedge(0, 0));
        refused(AwardDesk::new, "fine", BAD, x -> x.fine(0, 0));
        CHECK.due("no holder", new AwardDesk().holder(0, 0), NONE);
    }

    private static void badStandsFirst() {
        CHECK.sentence("of several the one that stands first with it");
        refused("survey: no survey, SIZE", BAD, x -> x.survey(3, 0, -1));
        refused("survey: no width, SIZE", BAD, x -> x.survey(0, 3, -1));
        refused("mark: no survey, no place", BAD, x -> x.mark(-1, -1, 0));
        refused("copy: no survey, a missing one", BAD, x -> x.copy(3, 0, 2, 0, 1));
        refused("copy: a missing one, no survey", BAD, x -> x.copy(2, 0, 3, 0, 1));
        refused("copy: no survey, no place", BAD, x -> x.copy(3, -1, 0, -1, -1));
        refused("road: twice the same close", BAD, x -> x.road(5, 5));
        refused("road: a close and no cell", BAD, x -> x.road(5, 12));
        refused("road: no cell and a close", BAD, x -> x.road(-1, 5));
        refused(Village::full, "claimant: full, no kind", BAD, x -> x.claimant(5, 0));
        refused(Village::full, "claimant: full, no home", BAD, x -> x.claimant(0, 6));
        refused(Village::full, "claim: full, no claimant", BAD, x -> x.claim(8, 0, 0, 0));
        refused(Village::full, "claim: full, no cell", BAD, x -> x.claim(0, 6, 0, 0));
        refused(Village::full, "claim: full, no proof", BAD, x -> x.claim(0, 0, 4, 0));
        refused(Village::full, "claim: full, no day", BAD, x -> x.claim(0, 0, 0, 1000));
        refused(Village::full, "object: full, no claimant", BAD, x -> x.object(8, 0, 0));
        refused(Village::full, "object: full, no cell", BAD, x -> x.object(0, 6, 0));
        refused(Village::full, "object: full, no day", BAD, x -> x.object(0, 0, -1));
        refused(RefusedTest::crossed, "draw: no day, too few tries", BAD, x -> x.draw(1000, 1, 0));
        refused(RefusedTest::crossed, "draw: none or still, too few tries", BAD, x -> x.draw(10, 1, 2));
        refused(RefusedTest::crossed, "draw: no tries", BAD, x -> x.draw(10, 0, 0));
    }

    private static void laterOnesStandInTurn() {
        CHECK.sentence("BAD; NOTHING: one is MISSING; NO: unlike WIDTHS; INDEX.");
        refused("from a missing one, no place", NOTHING, x -> x.copy(2, -1, 0, 0, 1));
        refused("to a missing one, fewer than none", NOTHING, x -> x.copy(0, 0, 2, 0, -1));
        refused("unlike widths, no place", NO, x -> x.copy(0, 9, 1, 0, 1));
        refused("unlike widths, not at such a place", NO, x -> x.copy(0, 0, 1, 9, 1));
        refused("unlike widths, fewer than none", NO, x -> x.copy(0, 0, 1, 0, -1));
        CHECK.sentence("BAD: survey; NOTHING; INDEX.");
        refused("mark of a missing one, no place", NOTHING, x -> x.mark(2, -1, 0));
    }

    private static void questionsChangeNothing() {
        CHECK.sentence("");
        AwardDesk asked = Village.lively();
        for (int what = 0; what < 5; what++) {
            for (int who = 0; who < 4; who++) {
                asked.has(who, what, 999);
                asked.isOf(who, what);
                asked.plot(who, what);
                asked.good(who, 999);
                asked.fine(who, 999);
            }
            asked.sum(what, 999);
            asked.count(what);
            asked.holder(what, 999);
            asked.told(what, 1);
        }
        asked.upheld(0);
        CHECK.isTrue("a question changes something", Snapshot.of(asked).equals(Snapshot.of(Village.lively())));
    }
}
