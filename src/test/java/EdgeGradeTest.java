/** Promises 26 to 33: each sentence that names an edge of GRADES, FRACTIONS, CELLS within bounds, what would be laid. */
public final class EdgeGradeTest {
    private static final Check CHECK = new Check("EdgeGradeTest");
    private static final int MIN = Integer.MIN_VALUE;
    private static final int MAX = Integer.MAX_VALUE;
    private static final int[] WRONG = {-1, MIN, MAX, 1 << 30};
    private static final String LOTS = "lot a tonnes 999 grade 100;lot b tonnes 999 grade 201;lot c tonnes 999 grade 0;"
        + "lot d tonnes 9 grade 999;";
    private static final String YARD = LOTS + "pile p cells 4;pile q cells 2;pile r cells 12;"
        + "ship s needs 9 low 0 high 999 due 5 load 1;ship t needs 999 low 0 high 999 due 5 load 1;";

    public static void main(String[] args) {
        noCellSuch();
        nothingOnTheCell();
        noPileSuch();
        nothingOnThePile();
        noShipSuch();
        nothingInTheHold();
        leastTerms();
        zeroByOne();
        oneAtFirst();
        theLatestTold();
        otherGrades();
        withinOthers();
        withinBounds();
        noSpread();
        spreadOfOne();
        greatestLessLeast();
        spreadBelow();
        wideSpread();
        ifLaidNone();
        ifLaidNothing();
        ifLaidEnds();
        ifLaidInThought();
        CHECK.end();
    }

    private static void noCellSuch() {
        CHECK.says(26, "NONE: none such");
        BlendYard x = Check.yard(YARD);
        x.lay(0, 0, 0, 3, 1);
        x.lay(1, 0, 0, 1, 1);
        x.lay(2, 0, 0, 11, 1);
        for (int w : WRONG) {
            CHECK.due("cell(" + w + ", 0)", x.cell(w, 0), -1);
            CHECK.due("cell(0, " + w + ")", x.cell(0, w), -1);
            CHECK.due("cell(" + w + ", " + w + ")", x.cell(w, w), -1);
        }
        int[] cells = {4, 2, 12};
        for (int pile = 0; pile < 3; pile++) {
            CHECK.due("the last CELL of " + pile, x.cell(pile, cells[pile] - 1), 100);
            CHECK.due("one CELL more of " + pile, x.cell(pile, cells[pile]), -1);
        }
        CHECK.due("cell(3, 0)", x.cell(3, 0), -1);
    }

    private static void nothingOnTheCell() {
        CHECK.says(26, "-2: nothing lies there");
        BlendYard x = Check.yard(YARD);
        CHECK.due("no LAYERS", x.cell(0, 0), -2);
        x.lay(0, 0, 1, 2, 1);
        CHECK.due("ahead of the LAYER", x.cell(0, 0), -2);
        CHECK.due("the LAYER", x.cell(0, 1), 100);
        CHECK.due("behind the LAYER", x.cell(0, 3), -2);
        CHECK.due("another PILE", x.cell(1, 1), -2);
        x.park(0);
        x.cut(0, 1, 0);
        CHECK.due("cut", x.cell(0, 1), -2);
        CHECK.due("beside what was cut", x.cell(0, 2), 100);
        CHECK.says(26, "GRADE of a CUT there: of grade 0 it is 0, not -2");
        x.lay(1, 2, 0, 0, 5);
        CHECK.due("cell(1, 0)", x.cell(1, 0), 0);
    }

    private static void noPileSuch() {
        CHECK.says(27, "NONE likewise: none such");
        BlendYard x = Check.yard(YARD);
        for (int w : WRONG) {
            CHECK.due("whole(" + w + ")", x.whole(w), -1);
        }
        CHECK.due("whole(3)", x.whole(3), -1);
        CHECK.due("whole(2)", x.whole(2), -2);
    }

    private static void nothingOnThePile() {
        CHECK.says(27, "-2 likewise: nothing lies there");
        BlendYard x = Check.yard(YARD);
        CHECK.due("no LAYERS", x.whole(0), -2);
        x.lay(0, 0, 3, 3, 1);
        CHECK.due("a tonne", x.whole(0), 100);
        CHECK.due("another PILE", x.whole(1), -2);
        x.park(0);
        x.cut(0, 3, 0);
        CHECK.due("a LAYER of which nothing lies any more", x.whole(0), -2);
        x.lay(1, 2, 0, 1, 1);
        CHECK.due("grade 0", x.whole(1), 0);
        x.lay(2, 3, 0, 0, 9);
        CHECK.due("grade 999", x.whole(2), 999);
    }

    private static void noShipSuch() {
        CHECK.says(28, "NONE likewise: none such");
        BlendYard x = Check.yard(YARD);
        for (int w : WRONG) {
            CHECK.due("hold(" + w + ")", x.hold(w), -1);
        }
        CHECK.due("hold(2)", x.hold(2), -1);
        CHECK.due("hold(1)", x.hold(1), -2);
    }

    private static void nothingInTheHold() {
        CHECK.says(28, "-2 likewise: nothing is in it");
        BlendYard x = Check.yard(YARD);
        CHECK.due("hold(0)", x.hold(0), -2);
        x.lay(0, 2, 0, 0, 4);
        x.lay(0, 0, 1, 1, 4);
        x.lay(0, 1, 1, 1, 2);
        x.park(0);
        x.cut(0, 0, 0);
        CHECK.due("hold(0), of grade 0", x.hold(0), 0);
        CHECK.due("below()", x.below(), 1);
        x.cut(0, 1, 0);
        CHECK.due("hold(0), of both", x.hold(0), 401);
        CHECK.due("below()", x.below(), 5);
        CHECK.due("hold(1)", x.hold(1), -2);
        x.sail(0);
        CHECK.due("hold(0), it sailed", x.hold(0), 401);
        x.undo();
        x.undo();
        x.undo();
        CHECK.due("hold(0), taken back", x.hold(0), -2);
    }

    private static void leastTerms() {
        CHECK.says(29, "FRACTIONS are told in least terms");
        BlendYard x = Check.yard(YARD);
        // 100 and 201 by tonnes: k tonnes of b on 6 of a.
        x.lay(0, 0, 0, 0, 6);
        int[][] want = {{100, 1}, {801, 7}, {501, 4}, {401, 3}, {702, 5}, {1605, 11}, {301, 2}};
        for (int k = 0; k <= 6; k++) {
            if (k > 0) {
                x.lay(0, 1, 0, 0, 1);
            }
            CHECK.due("cell(0, 0), " + k + " tonnes of b", x.cell(0, 0), want[k][0]);
            CHECK.due("below()", x.below(), want[k][1]);
            CHECK.due("whole(0)", x.whole(0), want[k][0]);
            CHECK.due("below()", x.below(), want[k][1]);
        }
        CHECK.says(29, "FRACTIONS in least terms: whole numbers have 1 below");
        x.lay(1, 0, 0, 1, 99);
        CHECK.due("whole(1)", x.whole(1), 100);
        CHECK.due("below()", x.below(), 1);
    }

    private static void zeroByOne() {
        CHECK.says(29, "0 as 0 by 1");
        BlendYard x = Check.yard(YARD);
        x.lay(0, 2, 0, 1, 7);
        x.lay(0, 1, 1, 1, 2);
        CHECK.due("cell(0, 1)", x.cell(0, 1), 134);
        CHECK.due("below()", x.below(), 3);
        CHECK.due("cell(0, 0)", x.cell(0, 0), 0);
        CHECK.due("below()", x.below(), 1);
        x.lay(1, 2, 0, 1, 3);
        x.cell(0, 1);
        CHECK.due("whole(1)", x.whole(1), 0);
        CHECK.due("below()", x.below(), 1);
        x.cell(0, 1);
        CHECK.due("ifLaid", x.ifLaid(2, 2, 0, 0, 5, 0), 0);
        CHECK.due("below()", x.below(), 1);
        x.park(0);
        x.cut(0, 0, 0);
        x.cell(0, 1);
        CHECK.due("hold(0)", x.hold(0), 0);
        CHECK.due("below()", x.below(), 1);
    }

    private static void oneAtFirst() {
        CHECK.says(29, "below(): 1 at first");
        BlendYard x = new BlendYard();
        CHECK.due("a new object", x.below(), 1);
        x.cell(0, 0);
        x.whole(0);
        x.hold(0);
        CHECK.due("none told", x.below(), 1);
        x = Check.yard(YARD);
        x.cell(0, 0);
        x.whole(0);
        x.hold(0);
        CHECK.due("none told", x.below(), 1);
    }

    private static void theLatestTold() {
        CHECK.says(29, "What is below of the latest FRACTION told: -2 and NONE tell none");
        BlendYard x = Check.yard(YARD);
        x.lay(0, 0, 0, 0, 4);
        x.lay(0, 1, 0, 0, 3);
        CHECK.due("cell(0, 0)", x.cell(0, 0), 1003);
        CHECK.due("below()", x.below(), 7);
        int[] answers = {x.cell(0, 1), x.cell(9, 0), x.cell(0, 9), x.whole(1), x.whole(9), x.hold(0), x.hold(9),
            x.ifLaid(0, 0, 0, 0, 0, 0), x.ifLaid(0, 0, 1, 1, 1, 2), x.ifLaid(0, 0, 0, 0, 1, 9)};
        int[] want = {-2, -1, -1, -2, -1, -2, -1, -1, -2, -1};
        for (int i = 0; i < answers.length; i++) {
            CHECK.due("answer " + i, answers[i], want[i]);
        }
        CHECK.due("below()", x.below(), 7);
        CHECK.due("below() again", x.below(), 7);
        CHECK.says(29, "What is below of the latest FRACTION told: of each call in turn");
        x.lay(0, 0, 1, 1, 4);
        x.lay(0, 1, 1, 1, 1);
        x.park(0);
        x.cut(0, 1, 0);
        x.hold(0);
        CHECK.due("below(), hold", x.below(), 5);
        x.cell(0, 0);
        CHECK.due("below(), cell", x.below(), 7);
        x.park(1);
        x.ifLaid(0, 1, 0, 0, 1, 0);
        CHECK.due("below(), ifLaid", x.below(), 2);
        x.whole(0);
        CHECK.due("below(), whole", x.below(), 7);
    }

    private static void otherGrades() {
        CHECK.says(27, "GRADE of some ore: its tonnes times its LOTS' grades, all together, by all tonnes");
        BlendYard x = Check.yard(YARD);
        x.lay(0, 0, 0, 3, 1);
        x.lay(0, 1, 1, 3, 2);
        x.lay(0, 2, 2, 3, 4);
        x.lay(0, 3, 3, 3, 8);
        int[][] want = {{100, 1}, {502, 3}, {502, 7}, {8494, 15}};
        for (int cell = 0; cell < 4; cell++) {
            CHECK.due("cell(0, " + cell + ")", x.cell(0, cell), want[cell][0]);
            CHECK.due("below()", x.below(), want[cell][1]);
        }
        CHECK.due("whole(0)", x.whole(0), (400 + 6 * 201 + 8 * 999) / 2);
        CHECK.due("below()", x.below(), (4 + 6 + 8 + 8) / 2);
        CHECK.says(27, "GRADE of a PILE: of what still lies on it");
        x.park(0);
        x.cut(0, 3, 1);
        CHECK.due("whole(0)", x.whole(0), 1104);
        CHECK.due("below()", x.below(), 11);
    }

    private static void withinOthers() {
        CHECK.says(30, "(0 to 999, low not above high); NONE: others");
        BlendYard x = Check.yard(YARD);
        x.lay(0, 0, 0, 3, 1);
        for (int w : WRONG) {
            CHECK.due("pile " + w, x.within(w, 0, 999), -1);
        }
        CHECK.due("pile 3", x.within(3, 0, 999), -1);
        CHECK.due("pile 2", x.within(2, 0, 999), 0);
        int[][] wrong = {{-1, 999}, {0, 1000}, {1000, 1000}, {-1, -1}, {1, 0}, {999, 998}, {500, 499}, {MIN, 999}, {0, MAX},
            {MIN, MAX}, {MAX, MIN}, {999, 0}};
        for (int[] w : wrong) {
            CHECK.due("within(0, " + w[0] + ", " + w[1] + ")", x.within(0, w[0], w[1]), -1);
        }
        int[][] right = {{0, 0, 0}, {999, 999, 0}, {0, 999, 15}, {100, 100, 15}, {0, 100, 15}, {100, 999, 15}, {0, 99, 0}, {101, 999, 0}};
        for (int[] r : right) {
            CHECK.due("within(0, " + r[0] + ", " + r[1] + ")", x.within(0, r[0], r[1]), r[2]);
        }
    }

    private static void withinBounds() {
        CHECK.says(30, "CELLS of a PILE on which something lies, as bits");
        BlendYard x = Check.yard(YARD);
        CHECK.due("nothing lies there", x.within(2, 0, 999), 0);
        x.lay(2, 2, 0, 0, 1);
        CHECK.due("the first CELL, of grade 0", x.within(2, 0, 0), 1);
        x.lay(2, 3, 11, 11, 1);
        CHECK.due("the last CELL, of grade 999", x.within(2, 999, 999), 1 << 11);
        CHECK.due("both", x.within(2, 0, 999), 1 << 11 | 1);
        x.park(0);
        x.cut(2, 0, 0);
        CHECK.due("one was cut", x.within(2, 0, 999), 1 << 11);
        CHECK.says(30, "with a GRADE from low to high: FRACTIONS just above, just below");
        BlendYard y = Check.yard("lot a tonnes 999 grade 300;lot b tonnes 999 grade 301;pile p cells 3;");
        y.lay(0, 0, 0, 2, 50);
        y.lay(0, 1, 1, 1, 1);
        y.lay(0, 1, 2, 2, 99);
        CHECK.due("within(0, 300, 300)", y.within(0, 300, 300), 0b001);
        CHECK.due("within(0, 300, 301)", y.within(0, 300, 301), 0b111);
        CHECK.due("within(0, 301, 301)", y.within(0, 301, 301), 0b000);
        CHECK.due("within(0, 301, 999)", y.within(0, 301, 999), 0b000);
        CHECK.due("within(0, 0, 300)", y.within(0, 0, 300), 0b001);
        CHECK.due("within(0, 0, 299)", y.within(0, 0, 299), 0b000);
    }

    private static void noSpread() {
        CHECK.says(31, "NONE: none such");
        BlendYard x = Check.yard(YARD);
        for (int w : WRONG) {
            CHECK.due("spread(" + w + ")", x.spread(w), -1);
        }
        CHECK.due("spread(3)", x.spread(3), -1);
        CHECK.says(31, "-2: nothing lies there");
        CHECK.due("spread(2)", x.spread(2), -2);
        x.lay(0, 0, 0, 0, 5);
        CHECK.due("spread(1)", x.spread(1), -2);
        x.park(0);
        x.cut(0, 0, 0);
        CHECK.due("spread(0), all was cut", x.spread(0), -2);
    }

    private static void spreadOfOne() {
        CHECK.says(31, "The greatest GRADE of a CUT less the least one: of one CELL, of like CELLS it is 0");
        BlendYard x = Check.yard(YARD);
        x.lay(0, 0, 2, 2, 5);
        CHECK.due("one CELL", x.spread(0), 0);
        CHECK.due("spreadBelow()", x.spreadBelow(), 1);
        x.lay(0, 0, 0, 3, 7);
        CHECK.due("like CELLS, other tonnes", x.spread(0), 0);
        CHECK.due("spreadBelow()", x.spreadBelow(), 1);
        x.lay(1, 2, 0, 1, 5);
        CHECK.due("of grade 0", x.spread(1), 0);
    }

    private static void greatestLessLeast() {
        CHECK.says(31, "The greatest GRADE of a CUT of a PILE less the least one, wherever they lie");
        int[][] places = {{0, 3}, {3, 0}, {1, 2}, {2, 1}};
        for (int[] p : places) {
            BlendYard x = Check.yard(YARD);
            x.lay(0, 0, 0, 3, 4);
            x.lay(0, 1, p[0], p[0], 3);
            x.lay(0, 2, p[1], p[1], 1);
            // 1003 by 7 less 80.
            CHECK.due("b at " + p[0] + ", c at " + p[1], x.spread(0), 443);
            CHECK.due("spreadBelow()", x.spreadBelow(), 7);
        }
        CHECK.says(31, "The greatest GRADE of a CUT, the least one: of a tonne alone, too");
        for (int lot : new int[] {1, 2}) {
            for (int cell = 0; cell < 2; cell++) {
                BlendYard z = Check.yard(YARD);
                z.lay(1, lot, cell, cell, 1);
                z.lay(1, 0, 1 - cell, 1 - cell, 9);
                CHECK.due("spread(1)", z.spread(1), lot == 1 ? 101 : 100);
            }
        }
        CHECK.says(31, "of 12 CELLS, the last one too");
        BlendYard w = Check.yard(YARD);
        w.lay(2, 0, 0, 11, 4);
        w.lay(2, 1, 11, 11, 3);
        CHECK.due("spread(2)", w.spread(2), 303);
        CHECK.due("spreadBelow()", w.spreadBelow(), 7);
        w.lay(2, 3, 0, 0, 1);
        CHECK.due("spread(2)", w.spread(2), 899);
        CHECK.due("spreadBelow()", w.spreadBelow(), 5);
        CHECK.says(31, "of a CUT: CELLS on which nothing lies are none");
        BlendYard y = Check.yard(YARD);
        y.lay(0, 0, 1, 1, 4);
        y.lay(0, 1, 3, 3, 4);
        CHECK.due("spread(0)", y.spread(0), 101);
        y.lay(0, 2, 0, 0, 1);
        CHECK.due("spread(0), one of grade 0", y.spread(0), 201);
    }

    private static void spreadBelow() {
        CHECK.says(32, "What is below of the spread() told latest (1 at first)");
        CHECK.due("a new object", new BlendYard().spreadBelow(), 1);
        BlendYard x = Check.yard(YARD);
        CHECK.due("a new TEXT", x.spreadBelow(), 1);
        x.spread(0);
        x.spread(9);
        CHECK.due("none told", x.spreadBelow(), 1);
        x.lay(0, 0, 0, 1, 4);
        x.lay(0, 1, 1, 1, 3);
        x.lay(1, 0, 0, 1, 3);
        x.lay(1, 1, 1, 1, 2);
        CHECK.due("spread(0)", x.spread(0), 303);
        CHECK.due("spreadBelow()", x.spreadBelow(), 7);
        CHECK.due("spread(1)", x.spread(1), 202);
        CHECK.due("spreadBelow()", x.spreadBelow(), 5);
        CHECK.due("spread(2)", x.spread(2), -2);
        CHECK.due("spread(3)", x.spread(3), -1);
        x.cell(0, 0);
        x.whole(0);
        x.worst(3, 150);
        CHECK.due("spreadBelow(), -2 and NONE and others tell none", x.spreadBelow(), 5);
    }

    private static void wideSpread() {
        CHECK.says(31, "long: parts beyond 32 bits");
        BlendYard x = Check.yard("lot a tonnes 9999 grade 999;lot b tonnes 9999 grade 1;lot c tonnes 99 grade 0;pile p cells 2;");
        for (int i = 0; i < 29; i++) {
            x.lay(0, 0, 0, 0, 99);
            x.lay(0, 1, 1, 1, 99);
        }
        x.lay(0, 2, 0, 0, 2);
        x.lay(0, 2, 1, 1, 1);
        CHECK.due("spread(0)", x.spread(0), 2868129L * 2872 - 2871L * 2873);
        CHECK.due("spreadBelow()", x.spreadBelow(), 2873L * 2872);
    }

    private static void ifLaidNone() {
        CHECK.says(33, "NONE: others (none such)");
        BlendYard x = Check.yard(YARD);
        x.lay(0, 0, 0, 3, 1);
        for (int w : WRONG) {
            CHECK.due("pile " + w, x.ifLaid(w, 0, 0, 0, 1, 0), -1);
            CHECK.due("lot " + w, x.ifLaid(0, w, 0, 0, 1, 0), -1);
            CHECK.due("from " + w, x.ifLaid(0, 0, w, 0, 1, 0), -1);
            CHECK.due("to " + w, x.ifLaid(0, 0, 0, w, 1, 0), -1);
            CHECK.due("t " + w, x.ifLaid(0, 0, 0, 0, w, 0), -1);
            CHECK.due("cell " + w, x.ifLaid(0, 0, 0, 0, 1, w), -1);
        }
        CHECK.due("cell 4 of 4", x.ifLaid(0, 0, 0, 0, 1, 4), -1);
        CHECK.due("cell 3 of 4", x.ifLaid(0, 0, 0, 0, 1, 3), 100);
        CHECK.due("cell 2 of 2", x.ifLaid(1, 0, 0, 0, 1, 2), -1);
        CHECK.due("from 4 of 4", x.ifLaid(0, 0, 4, 0, 1, 0), -1);
        CHECK.due("to 4 of 4", x.ifLaid(0, 0, 0, 4, 1, 0), -1);
        CHECK.due("lot 4", x.ifLaid(0, 4, 0, 0, 1, 0), -1);
        CHECK.due("pile 3", x.ifLaid(3, 0, 0, 0, 1, 0), -1);
        CHECK.due("t 0", x.ifLaid(0, 0, 0, 0, 0, 0), -1);
        CHECK.due("t 99", x.ifLaid(0, 0, 0, 0, 99, 0), 100);
        CHECK.due("t 100", x.ifLaid(0, 0, 0, 0, 100, 0), -1);
        CHECK.says(33, "NONE: it can't be (2, 4, 5 of WHY NOT)");
        CHECK.due("9 of 9 tonnes", x.ifLaid(0, 3, 0, 2, 3, 3), 100);
        CHECK.due("12 of 9 tonnes", x.ifLaid(0, 3, 0, 3, 3, 3), -1);
        x.lay(0, 0, 3, 3, 1);
        x.park(0);
        x.cut(0, 3, 1);
        CHECK.due("APART", x.ifLaid(0, 0, 0, 1, 1, 2), 100);
        CHECK.due("not APART", x.ifLaid(0, 0, 0, 2, 1, 0), -1);
        for (int i = 0; i < 60; i++) {
            CHECK.due(i + " LAYERS", x.ifLaid(1, 0, 0, 0, 1, 0), 100);
            x.lay(1, 0, 0, 0, 1);
        }
        CHECK.due("60 LAYERS", x.ifLaid(1, 0, 0, 0, 1, 0), -1);
    }

    private static void ifLaidNothing() {
        CHECK.says(33, "-2: nothing would lie there");
        BlendYard x = Check.yard(YARD);
        CHECK.due("beside the LAYER", x.ifLaid(0, 0, 0, 2, 1, 3), -2);
        CHECK.due("ahead of the LAYER", x.ifLaid(0, 0, 3, 1, 1, 0), -2);
        CHECK.due("on the LAYER", x.ifLaid(0, 0, 3, 1, 1, 1), 100);
        CHECK.due("grade 0", x.ifLaid(0, 2, 0, 2, 1, 0), 0);
        x.lay(0, 1, 3, 3, 4);
        CHECK.due("beside it, where something lies", x.ifLaid(0, 0, 0, 2, 1, 3), 201);
        x.park(0);
        x.cut(0, 3, 0);
        x.park(1);
        CHECK.due("beside it, where all was cut", x.ifLaid(0, 0, 0, 2, 1, 3), -2);
    }

    private static void ifLaidEnds() {
        CHECK.says(33, "GRADE of a CELL, if a LOT were laid so: on both ends, either way, none beside them");
        for (int up = 0; up < 2; up++) {
            BlendYard x = Check.yard(YARD);
            x.lay(2, 0, 0, 11, 4);
            for (int cell = 0; cell < 12; cell++) {
                boolean on = cell >= 3 && cell <= 8;
                int from = up == 1 ? 3 : 8;
                CHECK.due("ifLaid on " + cell, x.ifLaid(2, 1, from, 11 - from, 3, cell), on ? 1003 : 100);
                CHECK.due("below()", x.below(), on ? 7 : 1);
            }
            CHECK.due("one CELL", x.ifLaid(2, 1, 5, 5, 3, 5), 1003);
            CHECK.due("beside one CELL", x.ifLaid(2, 1, 5, 5, 3, 4), 100);
            CHECK.due("beside one CELL", x.ifLaid(2, 1, 5, 5, 3, 6), 100);
        }
    }

    private static void ifLaidInThought() {
        CHECK.says(33, "In thought");
        BlendYard x = Check.yard(YARD);
        x.lay(0, 0, 0, 3, 4);
        x.toLay(1, 0, 0, 0, 1);
        x.minutes(9);
        CHECK.due("ifLaid", x.ifLaid(0, 1, 0, 3, 3, 1), 1003);
        CHECK.due("ifLaid again", x.ifLaid(0, 1, 0, 3, 3, 1), 1003);
        CHECK.due("cell(0, 1)", x.cell(0, 1), 100);
        CHECK.due("pile(0, 1)", x.pile(0, 1), 1);
        CHECK.due("lot(1, 2)", x.lot(1, 2), 999);
        CHECK.due("stands(0)", x.stands(0), 3);
        CHECK.due("count(6)", x.count(6), 13);
        CHECK.due("count(8)", x.count(8), 3);
        x.minutes(1);
        CHECK.due("stands(0), its WAY stays", x.stands(0), 100);
        CHECK.says(33, "GRADE as it is when it is laid indeed");
        CHECK.due("ifLaid", x.ifLaid(0, 1, 3, 0, 2, 2), 401);
        x.lay(0, 1, 3, 0, 2);
        CHECK.due("cell(0, 2)", x.cell(0, 2), 401);
        CHECK.due("below()", x.below(), 3);
    }
}
