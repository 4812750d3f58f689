/** Edges of the surveys (Terms 1; promises 5 to 9), each under the document's sentence that names it. */
public final class SurveyEdgesTest {
    private static final int BAD = AwardDesk.BAD, NO = AwardDesk.NO, NOTHING = AwardDesk.NOTHING;
    private static final int INDEX = AwardDesk.INDEX, SIZE = AwardDesk.SIZE;
    private static final int BYTES = 0, SHORTS = 1, INTS = 2;
    private static final Check CHECK = new Check("SurveyEdgesTest");

    public static void main(String[] args) {
        missingAtFirst();
        numbersOfPlaces();
        lost();
        cutToWidth();
        placesOfMark();
        copied();
        copiedOverItself();
        copiedAtTheEnds();
        readAsManyAsBothHave();
        readNoSoils();
        CHECK.end();
    }

    private static void missingAtFirst() {
        CHECK.sentence("rows of bytes (WIDTH 0), shorts (1) or ints (2) with 0 to 80 places, or MISSING (at first)");
        AwardDesk x = new AwardDesk();
        CHECK.due("none is there", x.count(6), 0);
        for (int s = 0; s < 3; s++) {
            CHECK.due("lose(" + s + ")", x.lose(s), NOTHING);
            CHECK.due("mark(" + s + ")", x.mark(s, 0, 0), NOTHING);
            CHECK.due("read(" + s + ")", x.read(s), NOTHING);
            CHECK.due("copy(" + s + ")", x.copy(s, 0, s, 0, 0), NOTHING);
        }
    }

    private static void numbersOfPlaces() {
        CHECK.sentence("A SURVEY has n places of a WIDTH, all 0: n. BAD: survey, width, n above 80; SIZE.");
        for (int width = BYTES; width <= INTS; width++) {
            AwardDesk x = new AwardDesk();
            CHECK.due("n of 81", x.survey(0, width, 81), BAD);
            CHECK.due("n of -1", x.survey(0, width, -1), SIZE);
            CHECK.due("n of the least", x.survey(0, width, Integer.MIN_VALUE), SIZE);
            CHECK.due("n of the most", x.survey(0, width, Integer.MAX_VALUE), BAD);
            CHECK.due("missing still", x.lose(0), NOTHING);
            CHECK.due("n of 80", x.survey(0, width, 80), 80);
            for (int place = 0; place < 80; place++) CHECK.due("place " + place, x.mark(0, place, 7), 0);
            CHECK.due("n of 80 again", x.survey(0, width, 80), 80);
            CHECK.due("all 0: the first", x.mark(0, 0, 7), 0);
            CHECK.due("all 0: the last", x.mark(0, 79, 7), 0);
            CHECK.due("n of 0", x.survey(0, width, 0), 0);
            CHECK.due("no place", x.mark(0, 0, 0), INDEX);
            CHECK.due("but it is there", x.count(6), 1);
            CHECK.due("n of 1", x.survey(0, width, 1), 1);
            CHECK.due("one place, 0", x.mark(0, 0, 5), 0);
            CHECK.due("not two", x.mark(0, 1, 5), INDEX);
        }
        AwardDesk x = new AwardDesk();
        x.survey(0, BYTES, 2);
        CHECK.due("width -1", x.survey(0, -1, 2), BAD);
        CHECK.due("width 3", x.survey(0, 3, 2), BAD);
        CHECK.due("survey -1", x.survey(-1, 0, 2), BAD);
        CHECK.due("survey 3", x.survey(3, 0, 2), BAD);
        x.survey(0, INTS, 2);
        x.mark(0, 0, 70000);
        CHECK.due("another width than before", x.mark(0, 0, 0), 70000);
    }

    private static void lost() {
        CHECK.sentence("A SURVEY is MISSING: how many places it had. BAD; NOTHING.");
        AwardDesk x = new AwardDesk();
        x.survey(0, BYTES, 0);
        x.survey(1, SHORTS, 1);
        x.survey(2, INTS, 80);
        CHECK.due("of 0 places", x.lose(0), 0);
        CHECK.due("it is missing now", x.lose(0), NOTHING);
        CHECK.due("of 1 place", x.lose(1), 1);
        CHECK.due("the others are not lost with it", x.count(6), 1);
        CHECK.due("of 80 places", x.lose(2), 80);
        CHECK.due("none is there", x.count(6), 0);
        CHECK.due("lose(-1)", x.lose(-1), BAD);
        CHECK.due("lose(3)", x.lose(3), BAD);
        x.survey(1, BYTES, 3);
        CHECK.due("back again with other places", x.lose(1), 3);
    }

    private static void cutToWidth() {
        CHECK.sentence("A place of a SURVEY becomes v, cut to its WIDTH (its lowest bits, with sign): what it was.");
        int[][] bytes = {{127, 127}, {128, -128}, {255, -1}, {256, 0}, {257, 1}, {-128, -128}, {-129, 127}, {-256, 0},
            {0x7fffff80, -128}, {Integer.MAX_VALUE, -1}, {Integer.MIN_VALUE, 0}};
        int[][] shorts = {{128, 128}, {32767, 32767}, {32768, -32768}, {65535, -1}, {65536, 0}, {65537, 1},
            {-32768, -32768}, {-32769, 32767}, {0x7fff8000, -32768}, {Integer.MAX_VALUE, -1}, {Integer.MIN_VALUE, 0}};
        int[][] ints = {{65536, 65536}, {-32769, -32769}, {Integer.MAX_VALUE, Integer.MAX_VALUE},
            {Integer.MIN_VALUE, Integer.MIN_VALUE}};
        int[][][] all = {bytes, shorts, ints};
        for (int width = BYTES; width <= INTS; width++) {
            AwardDesk x = new AwardDesk();
            x.survey(2, width, 3);
            for (int[] v : all[width]) {
                CHECK.due("it was 0", x.mark(2, 1, v[0]), 0);
                CHECK.due("width " + width + ", " + v[0], x.mark(2, 1, 0), v[1]);
            }
            CHECK.due("the place ahead", x.mark(2, 0, 0), 0);
            CHECK.due("the place behind", x.mark(2, 2, 0), 0);
        }
    }

    private static void placesOfMark() {
        CHECK.sentence("BAD: survey; NOTHING; INDEX.");
        AwardDesk x = new AwardDesk();
        x.survey(1, SHORTS, 80);
        CHECK.due("the first place", x.mark(1, 0, 3), 0);
        CHECK.due("the last place", x.mark(1, 79, 4), 0);
        CHECK.due("place -1", x.mark(1, -1, 0), INDEX);
        CHECK.due("place 80", x.mark(1, 80, 0), INDEX);
        CHECK.due("the most place", x.mark(1, Integer.MAX_VALUE, 0), INDEX);
        CHECK.due("the least place", x.mark(1, Integer.MIN_VALUE, 0), INDEX);
        x.survey(1, SHORTS, 2);
        CHECK.due("a place of the longer one", x.mark(1, 2, 0), INDEX);
        CHECK.due("of a missing one", x.mark(0, 0, 0), NOTHING);
        CHECK.due("survey 3", x.mark(3, 0, 0), BAD);
        CHECK.due("survey -1", x.mark(-1, 0, 0), BAD);
    }

    private static AwardDesk counted() {
        AwardDesk x = new AwardDesk();
        x.survey(0, BYTES, 6);
        x.survey(1, BYTES, 4);
        for (int i = 0; i < 6; i++) x.mark(0, i, i + 1);
        for (int i = 0; i < 4; i++) x.mark(1, i, -i - 1);
        return x;
    }

    private static int[] row(AwardDesk x, int s, int places) {
        int[] row = new int[places];
        for (int i = 0; i < places; i++) {
            row[i] = x.mark(s, i, 0);
            x.mark(s, i, row[i]);
        }
        return row;
    }

    private static void copied() {
        CHECK.sentence("So many places of a SURVEY come to another one (or the same) of one WIDTH: many.");
        AwardDesk x = counted();
        CHECK.due("all of the shorter one", x.copy(1, 0, 0, 0, 4), 4);
        CHECK.due("to", row(x, 0, 6), -1, -2, -3, -4, 5, 6);
        CHECK.due("from", row(x, 1, 4), -1, -2, -3, -4);
        CHECK.due("to its end", x.copy(1, 0, 0, 2, 4), 4);
        CHECK.due("to", row(x, 0, 6), -1, -2, -1, -2, -3, -4);
        CHECK.due("one, the last, to the first", x.copy(0, 5, 1, 0, 1), 1);
        CHECK.due("to", row(x, 1, 4), -4, -2, -3, -4);
        for (int width = SHORTS; width <= INTS; width++) {
            AwardDesk y = new AwardDesk();
            y.survey(0, width, 80);
            y.survey(2, width, 80);
            int wide = width == SHORTS ? -32768 : Integer.MIN_VALUE;
            y.mark(0, 79, wide);
            CHECK.due("80 places", y.copy(0, 0, 2, 0, 80), 80);
            CHECK.due("the last, not cut", y.mark(2, 79, 0), wide);
        }
    }

    private static void copiedOverItself() {
        CHECK.sentence("(or the same)");
        AwardDesk x = counted();
        CHECK.due("up by one", x.copy(0, 0, 0, 1, 5), 5);
        CHECK.due("as they were ahead of it", row(x, 0, 6), 1, 1, 2, 3, 4, 5);
        x = counted();
        CHECK.due("down by one", x.copy(0, 1, 0, 0, 5), 5);
        CHECK.due("as they were ahead of it", row(x, 0, 6), 2, 3, 4, 5, 6, 6);
        CHECK.due("all onto themselves", x.copy(0, 0, 0, 0, 6), 6);
        CHECK.due("nothing changes", row(x, 0, 6), 2, 3, 4, 5, 6, 6);
    }

    private static void copiedAtTheEnds() {
        CHECK.sentence("BAD; NOTHING: one is MISSING; NO: unlike WIDTHS; INDEX.");
        int most = Integer.MAX_VALUE, least = Integer.MIN_VALUE;
        int[][] wrong = {{0, 0, 5}, {0, 1, 4}, {3, 0, 4}, {6, 0, 1}, {0, 4, 1}, {-1, 0, 1}, {0, -1, 1}, {0, 0, -1},
            {7, 0, 0}, {0, 5, 0}, {-1, 0, 0}, {0, -1, 0}, {1, 0, most}, {0, 1, most}, {most, 0, 1}, {0, most, 1},
            {most, most, most}, {least, 0, least}, {0, 0, least}, {6, 4, -1}, {2, 2, -2}};
        for (int[] w : wrong) {
            AwardDesk x = counted();
            CHECK.due("place " + w[0] + ", at " + w[1] + ", many " + w[2], x.copy(0, w[0], 1, w[1], w[2]), INDEX);
            CHECK.due("from", row(x, 0, 6), 1, 2, 3, 4, 5, 6);
            CHECK.due("to", row(x, 1, 4), -1, -2, -3, -4);
        }
        AwardDesk x = counted();
        CHECK.due("none", x.copy(0, 0, 1, 0, 0), 0);
        CHECK.due("none, just at both ends", x.copy(0, 6, 1, 4, 0), 0);
        x.survey(2, BYTES, 0);
        CHECK.due("none of none", x.copy(2, 0, 2, 0, 0), 0);
        CHECK.due("one of none", x.copy(2, 0, 0, 0, 1), INDEX);
        CHECK.due("one to none", x.copy(0, 0, 2, 0, 1), INDEX);
        x.survey(2, SHORTS, 0);
        CHECK.due("none of none, unlike widths", x.copy(2, 0, 0, 0, 0), NO);
        x.lose(2);
        CHECK.due("from a missing one that was like", x.copy(2, 0, 0, 0, 0), NOTHING);
        CHECK.due("to a missing one", x.copy(0, 0, 2, 0, 0), NOTHING);
        CHECK.due("survey 3", x.copy(3, 0, 0, 0, 0), BAD);
        CHECK.due("to survey -1", x.copy(0, 0, -1, 0, 0), BAD);
    }

    private static void readAsManyAsBothHave() {
        CHECK.sentence("SOILS become what a SURVEY has, CELL by CELL, as many as both have: how many.");
        int[] places = {0, 1, 5, 6, 7, 80}, want = {0, 1, 5, 6, 6, 6};
        for (int i = 0; i < places.length; i++) {
            AwardDesk x = Village.plain(3, 2);
            x.survey(0, BYTES, places[i]);
            for (int place = 0; place < Math.min(places[i], 8); place++) x.mark(0, place, 9 - place);
            CHECK.due("read of " + places[i], x.read(0), want[i]);
            for (int cell = 0; cell < 6; cell++) CHECK.due("soil of " + cell, x.told(cell, 0), cell < want[i] ? 9 - cell : 1);
        }
        AwardDesk x = new AwardDesk();
        x.land(10, 8);
        x.survey(0, INTS, 80);
        x.mark(0, 79, 9);
        CHECK.due("all 80", x.read(0), 80);
        CHECK.due("the last", x.told(79, 0), 9);
        CHECK.due("the one ahead", x.told(78, 0), 0);
        x.cell(79, 0, 4);
        CHECK.due("the survey is not changed by the land", x.mark(0, 79, 9), 9);
        x.mark(0, 78, 3);
        CHECK.due("nor the land by the survey", x.told(78, 0), 0);
    }

    private static void readNoSoils() {
        CHECK.sentence("BAD; NOTHING; NO: one of these is not 0 .. 9.");
        int[][] wrong = {{BYTES, 10}, {BYTES, -1}, {SHORTS, 256}, {SHORTS, -32768}, {INTS, 65536}, {INTS, Integer.MIN_VALUE}};
        for (int[] w : wrong) {
            AwardDesk x = Village.plain(3, 2);
            x.survey(0, w[0], 7);
            x.mark(0, 6, w[1]);
            CHECK.due(w[1] + " behind the last cell", x.read(0), 6);
            x.cell(0, 0, 5);
            x.mark(0, 5, w[1]);
            CHECK.due(w[1] + " at the last cell", x.read(0), NO);
            CHECK.due("none is read", x.told(0, 0), 5);
            x.mark(0, 5, 9);
            x.mark(0, 0, w[1]);
            CHECK.due(w[1] + " at the first cell", x.read(0), NO);
            x.mark(0, 0, 0);
            CHECK.due("0 and 9", x.read(0), 6);
            CHECK.due("0", x.told(0, 0), 0);
            CHECK.due("9", x.told(5, 0), 9);
        }
        CHECK.due("a missing one", new AwardDesk().read(0), NOTHING);
        CHECK.due("survey 3", new AwardDesk().read(3), BAD);
        CHECK.due("survey -1", new AwardDesk().read(-1), BAD);
    }
}
