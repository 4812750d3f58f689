/** Desks to begin a test with. All are made in few calls, as an object is used for at most 512. */
final class Village {
    private Village() { }

    /**
     * 4 by 3 cells: fields 1 and 2, a close at 5, a road in the last row; a FREE, a COPY, a LORD and a RECTOR; six claims,
     * one of them late; two objections; surveys 0 and 1; two plots; other rules than at first.
     */
    static AwardDesk lively() {
        AwardDesk x = new AwardDesk();
        x.land(4, 3);
        x.claimant(1, 0);
        x.claimant(2, 3);
        x.claimant(3, 8);
        x.claimant(4, 11);
        x.cell(1, 1, 1);
        x.cell(2, 1, 1);
        x.cell(2, 0, 3);
        x.cell(5, 1, 2);
        x.road(8, 11);
        x.claim(0, 1, 2, 50);
        x.claim(1, 2, 1, 50);
        x.claim(0, 2, 1, 60);
        x.claim(1, 110, 1, 10);
        x.claim(2, 105, 2, 10);
        x.claim(0, 1, 3, 600);
        x.object(0, 2, 60);
        x.object(0, 2, 55);
        x.survey(0, 0, 5);
        x.mark(0, 0, 9);
        x.survey(1, 1, 4);
        x.mark(1, 3, 300);
        x.rule(2, 20);
        x.rule(3, 1);
        x.rule(4, 3);
        x.allot(0, 0, 23);
        x.allot(1, 6, 23);
        x.hedge(1, 950);
        return x;
    }

    /** As many claimants, claims and objections as there may be. */
    static AwardDesk full() {
        AwardDesk x = new AwardDesk();
        x.land(3, 2);
        for (int i = 0; i < 8; i++) x.claimant(i % 5, i % 6);
        x.cell(1, 1, 1);
        for (int i = 0; i < 40; i++) x.claim(i % 8, i % 2 == 0 ? 1 : 101 + i, i % 4, 480 + i);
        for (int i = 0; i < 20; i++) x.object(i % 8, 1, 480 + i);
        return x;
    }

    /** A land of nothing but soil of 1, with free claimants of these homes. */
    static AwardDesk plain(int wide, int high, int... homes) {
        AwardDesk x = new AwardDesk();
        x.land(wide, high);
        for (int home : homes) x.claimant(1, home);
        return x;
    }

    /** A field of a soil, claimed. */
    static void strip(AwardDesk x, int cell, int soil, int claimant, int proof, int day) {
        x.cell(cell, 0, soil);
        x.cell(cell, 1, 1);
        x.claim(claimant, cell, proof, day);
    }

    static int sizes(int wide, int high) {
        return 11 * wide + high;
    }
}
