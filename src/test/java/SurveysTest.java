/** Promises 5 to 9: survey, lose, mark, copy, read. */
public final class SurveysTest {
    private static final int BAD = AwardDesk.BAD, NO = AwardDesk.NO;
    private static final int NOTHING = AwardDesk.NOTHING, INDEX = AwardDesk.INDEX, SIZE = AwardDesk.SIZE;
    private static final int[] NO_SURVEYS = {-1, 3, Integer.MIN_VALUE, Integer.MAX_VALUE};
    private static final Check CHECK = new Check("SurveysTest");

    public static void main(String[] args) {
        survey();
        lose();
        markCuts();
        markRefused();
        copyMoves();
        copyRefused();
        readSoils();
        readRefused();
        CHECK.end();
    }

    private static void survey() {
        AwardDesk x = new AwardDesk();
        CHECK.due("survey(0, 0, 0)", x.survey(0, 0, 0), 0);
        CHECK.due("survey(1, 1, 80)", x.survey(1, 1, 80), 80);
        CHECK.due("survey(2, 2, 1)", x.survey(2, 2, 1), 1);
        CHECK.due("all are there", x.count(6), 3);
        for (int s : NO_SURVEYS) {
            CHECK.due("survey(" + s + ")", x.survey(s, 0, 1), BAD);
            CHECK.due("BAD stands ahead of SIZE: survey", x.survey(s, 0, -1), BAD);
        }
        CHECK.due("width 3", x.survey(0, 3, 1), BAD);
        CHECK.due("width -1", x.survey(0, -1, 1), BAD);
        CHECK.due("BAD stands ahead of SIZE: width", x.survey(0, 3, -1), BAD);
        CHECK.due("n 81", x.survey(0, 0, 81), BAD);
        CHECK.due("n the most", x.survey(0, 0, Integer.MAX_VALUE), BAD);
        CHECK.due("n -1", x.survey(0, 0, -1), SIZE);
        CHECK.due("n the least", x.survey(0, 0, Integer.MIN_VALUE), SIZE);
        x.survey(0, 2, 4);
        x.mark(0, 3, 5);
        x.survey(0, 2, -1);
        CHECK.due("a refused one changes nothing", x.mark(0, 3, 6), 5);
        x.survey(0, 2, 4);
        CHECK.due("a new one is all 0", x.mark(0, 3, 6), 0);
    }

    private static void lose() {
        AwardDesk x = new AwardDesk();
        CHECK.due("lose at first", x.lose(0), NOTHING);
        x.survey(0, 0, 0);
        x.survey(2, 1, 44);
        CHECK.due("count", x.count(6), 2);
        CHECK.due("lose none", x.lose(0), 0);
        CHECK.due("lose 44", x.lose(2), 44);
        CHECK.due("lose again", x.lose(2), NOTHING);
        CHECK.due("count of none", x.count(6), 0);
        for (int s : NO_SURVEYS) CHECK.due("lose(" + s + ")", x.lose(s), BAD);
        x.survey(2, 1, 44);
        CHECK.due("found again, all 0", x.mark(2, 43, 1), 0);
    }

    private static void markCuts() {
        AwardDesk x = new AwardDesk();
        int[] told = {127, 128, 255, 256, 32767, 32768, 65535, 65536, -1, -129, -32769, Integer.MIN_VALUE, Integer.MAX_VALUE};
        for (int width = 0; width < 3; width++) {
            x.survey(width, width, 2);
            for (int v : told) {
                int cut = width == 0 ? (byte) v : width == 1 ? (short) v : v;
                x.mark(width, 1, v);
                CHECK.due("width " + width + ", " + v, x.mark(width, 1, 0), cut);
            }
            CHECK.due("the other place", x.mark(width, 0, 0), 0);
        }
    }

    private static void markRefused() {
        AwardDesk x = new AwardDesk();
        for (int s : NO_SURVEYS) CHECK.due("mark(" + s + ")", x.mark(s, -1, 0), BAD);
        CHECK.due("missing", x.mark(0, 0, 0), NOTHING);
        CHECK.due("missing stands ahead of INDEX", x.mark(0, -1, 0), NOTHING);
        x.survey(0, 0, 0);
        CHECK.due("no place at all", x.mark(0, 0, 0), INDEX);
        x.survey(0, 0, 80);
        CHECK.due("the last place", x.mark(0, 79, 1), 0);
        int[] noPlaces = {-1, 80, Integer.MIN_VALUE, Integer.MAX_VALUE};
        for (int place : noPlaces) CHECK.due("place " + place, x.mark(0, place, 0), INDEX);
    }

    private static AwardDesk counted() {
        AwardDesk x = new AwardDesk();
        x.survey(0, 1, 10);
        x.survey(1, 1, 6);
        for (int i = 0; i < 10; i++) x.mark(0, i, 100 + i);
        return x;
    }

    private static void isRow(AwardDesk x, int s, int... want) {
        for (int i = 0; i < want.length; i++) {
            int got = x.mark(s, i, 0);
            x.mark(s, i, got);
            CHECK.due("survey " + s + " place " + i, got, want[i]);
        }
    }

    private static void copyMoves() {
        AwardDesk x = counted();
        CHECK.due("copy", x.copy(0, 7, 1, 2, 3), 3);
        isRow(x, 1, 0, 0, 107, 108, 109, 0);
        isRow(x, 0, 100, 101, 102, 103, 104, 105, 106, 107, 108, 109);
        CHECK.due("up within one", x.copy(0, 0, 0, 2, 8), 8);
        isRow(x, 0, 100, 101, 100, 101, 102, 103, 104, 105, 106, 107);
        x = counted();
        CHECK.due("down within one", x.copy(0, 3, 0, 1, 7), 7);
        isRow(x, 0, 100, 103, 104, 105, 106, 107, 108, 109, 108, 109);
        CHECK.due("none", x.copy(0, 0, 1, 0, 0), 0);
        CHECK.due("none at the ends", x.copy(0, 10, 1, 6, 0), 0);
        CHECK.due("all of one", x.copy(1, 0, 0, 4, 6), 6);
        isRow(x, 0, 100, 103, 104, 105, 0, 0, 0, 0, 0, 0);
        CHECK.due("onto itself", x.copy(0, 0, 0, 0, 10), 10);
    }

    private static void copyRefused() {
        AwardDesk x = counted();
        for (int s : NO_SURVEYS) {
            CHECK.due("from " + s, x.copy(s, 0, 2, 0, 1), BAD);
            CHECK.due("to " + s, x.copy(2, 0, s, 0, 1), BAD);
        }
        CHECK.due("from a missing one", x.copy(2, -1, 0, 0, 1), NOTHING);
        CHECK.due("to a missing one", x.copy(0, 0, 2, 0, -1), NOTHING);
        x.survey(2, 0, 10);
        CHECK.due("unlike widths", x.copy(0, 0, 2, 0, 1), NO);
        CHECK.due("NO stands ahead of INDEX", x.copy(0, 0, 2, 0, 11), NO);
        CHECK.due("unlike widths, none moved", x.copy(0, 0, 2, 0, 0), NO);
        int most = Integer.MAX_VALUE, least = Integer.MIN_VALUE;
        int[][] wrong = {{0, 0, 7}, {5, 0, 6}, {0, 1, 6}, {-1, 0, 1}, {0, -1, 1}, {0, 0, -1}, {10, 0, 1}, {0, 6, 1},
            {11, 0, 0}, {0, 7, 0}, {-1, 0, 0}, {most, 0, most}, {0, most, most}, {0, 0, most}, {1, 1, most},
            {least, 0, most}, {0, 0, least}, {most, most, least}, {most, most, 1}};
        for (int[] w : wrong) {
            CHECK.due("copy(0, " + w[0] + ", 1, " + w[1] + ", " + w[2] + ")", x.copy(0, w[0], 1, w[1], w[2]), INDEX);
        }
        isRow(x, 0, 100, 101, 102, 103, 104, 105, 106, 107, 108, 109);
        isRow(x, 1, 0, 0, 0, 0, 0, 0);
    }

    private static void readSoils() {
        AwardDesk x = new AwardDesk();
        x.land(2, 3);
        x.survey(0, 2, 4);
        for (int i = 0; i < 4; i++) x.mark(0, i, 9 - 3 * i);
        CHECK.due("fewer than cells", x.read(0), 4);
        int[] want = {9, 6, 3, 0, 1, 1};
        for (int i = 0; i < 6; i++) CHECK.due("soil " + i, x.told(i, 0), want[i]);
        x.survey(1, 0, 8);
        for (int i = 0; i < 6; i++) x.mark(1, i, i);
        x.mark(1, 6, 10);
        x.mark(1, 7, -1);
        CHECK.due("places behind the last cell are not looked at", x.read(1), 6);
        for (int i = 0; i < 6; i++) CHECK.due("soil " + i, x.told(i, 0), i);
        x.survey(1, 0, 0);
        CHECK.due("no places", x.read(1), 0);
        CHECK.due("soils as they were", x.told(5, 0), 5);
        x.cell(0, 1, 2);
        x.cell(0, 2, 1);
        x.survey(1, 1, 6);
        CHECK.due("close and road are read too", x.read(1), 6);
        CHECK.due("soil of a close", x.told(0, 0), 0);
    }

    private static void readRefused() {
        AwardDesk x = new AwardDesk();
        for (int s : NO_SURVEYS) CHECK.due("read(" + s + ")", x.read(s), BAD);
        CHECK.due("missing", x.read(0), NOTHING);
        x.survey(0, 2, 30);
        int[] noSoils = {-1, 10, 256, Integer.MIN_VALUE, Integer.MAX_VALUE};
        for (int v : noSoils) {
            x.mark(0, 29, v);
            CHECK.due("a soil of " + v, x.read(0), NO);
        }
        CHECK.due("nothing was read", x.told(0, 0), 1);
        x.mark(0, 29, 0);
        x.mark(0, 0, 10);
        CHECK.due("the first soil counts, too", x.read(0), NO);
        x.mark(0, 0, 0);
        x.mark(0, 29, 9);
        CHECK.due("a soil of 9", x.read(0), 30);
        CHECK.due("told", x.told(29, 0), 9);
        CHECK.due("told", x.told(0, 0), 0);
    }
}
