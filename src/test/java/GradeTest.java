/** Promises 26 to 33: grades of cells, piles and holds, cells within bounds, how far they spread, layers in thought. */
public final class GradeTest {
    private static final Check CHECK = new Check("GradeTest");
    private static final String YARD = "lot a tonnes 900 grade 100;lot b tonnes 900 grade 201;lot c tonnes 900 grade 0;"
        + "lot d tonnes 900 grade 999;pile p cells 4;pile q cells 3;pile r cells 2;"
        + "ship s needs 9 low 0 high 999 due 5 load 1;ship t needs 900 low 0 high 999 due 5 load 1;";

    public static void main(String[] args) {
        cells();
        wholes();
        holds();
        within();
        spreads();
        twelveCells();
        widest();
        ifLaid();
        CHECK.end();
    }

    private static void cells() {
        BlendYard x = Check.yard(YARD);
        CHECK.due(29, "below()", x.below(), 1);
        CHECK.due(26, "cell(0, 0), nothing lies there", x.cell(0, 0), -2);
        x.lay(0, 0, 0, 3, 4);
        x.lay(0, 1, 1, 2, 2);
        x.lay(0, 2, 2, 3, 9);
        CHECK.due(26, "cell(0, 0)", x.cell(0, 0), 100);
        CHECK.due(29, "below()", x.below(), 1);
        CHECK.due(26, "cell(0, 1)", x.cell(0, 1), 401);
        CHECK.due(29, "below()", x.below(), 3);
        CHECK.due(26, "cell(0, 2)", x.cell(0, 2), 802);
        CHECK.due(29, "below()", x.below(), 15);
        CHECK.due(26, "cell(0, 3)", x.cell(0, 3), 400);
        CHECK.due(29, "below()", x.below(), 13);
        x.lay(1, 2, 0, 0, 7);
        CHECK.due(26, "cell(1, 1), nothing lies there", x.cell(1, 1), -2);
        for (int w : new int[] {-1, 4, Integer.MIN_VALUE, Integer.MAX_VALUE}) {
            CHECK.due(26, "cell(" + w + ", 0)", x.cell(w, 0), -1);
            CHECK.due(26, "cell(0, " + w + ")", x.cell(0, w), -1);
        }
        CHECK.due(26, "cell(1, 3)", x.cell(1, 3), -1);
        CHECK.due(29, "below(), no fraction was told", x.below(), 13);
        CHECK.due(26, "cell(1, 0)", x.cell(1, 0), 0);
        CHECK.due(29, "below(), 0 is told as 0 by 1", x.below(), 1);
    }

    private static void wholes() {
        BlendYard x = Check.yard(YARD);
        CHECK.due(27, "whole(0)", x.whole(0), -2);
        for (int w : new int[] {-1, 3, Integer.MIN_VALUE, Integer.MAX_VALUE}) {
            CHECK.due(27, "whole(" + w + ")", x.whole(w), -1);
        }
        x.lay(0, 0, 0, 3, 4);
        x.lay(0, 1, 1, 2, 2);
        CHECK.due(27, "whole(0)", x.whole(0), 601);
        CHECK.due(29, "below()", x.below(), 5);
        CHECK.due(27, "whole(1)", x.whole(1), -2);
        CHECK.due(29, "below()", x.below(), 5);
        x.lay(1, 0, 0, 0, 1);
        CHECK.due(27, "whole(1)", x.whole(1), 100);
        CHECK.due(29, "below()", x.below(), 1);
        x.cut(1, 0, 0);
        x.park(0);
        x.cut(1, 0, 0);
        CHECK.due(27, "whole(1), all was cut", x.whole(1), -2);
    }

    private static void holds() {
        BlendYard x = Check.yard(YARD);
        CHECK.due(28, "hold(0)", x.hold(0), -2);
        for (int w : new int[] {-1, 2, Integer.MIN_VALUE, Integer.MAX_VALUE}) {
            CHECK.due(28, "hold(" + w + ")", x.hold(w), -1);
        }
        x.lay(0, 0, 0, 3, 4);
        x.lay(0, 1, 1, 2, 2);
        x.park(0);
        x.cut(0, 1, 0);
        CHECK.due(28, "hold(0)", x.hold(0), 401);
        CHECK.due(29, "below()", x.below(), 3);
        x.cut(0, 0, 0);
        CHECK.due(28, "hold(0)", x.hold(0), 601);
        CHECK.due(29, "below()", x.below(), 5);
        CHECK.due(28, "hold(1)", x.hold(1), -2);
        x.sail(0);
        CHECK.due(28, "hold(0), it sailed", x.hold(0), 601);
    }

    private static void within() {
        BlendYard x = Check.yard(YARD);
        CHECK.due(30, "within(0, 0, 999), nothing lies there", x.within(0, 0, 999), 0);
        x.lay(0, 0, 0, 2, 4);
        x.lay(0, 1, 1, 2, 2);
        x.lay(0, 2, 2, 2, 9);
        CHECK.due(30, "within(0, 0, 999)", x.within(0, 0, 999), 7);
        CHECK.due(30, "within(0, 100, 100)", x.within(0, 100, 100), 1);
        CHECK.due(30, "within(0, 101, 999)", x.within(0, 101, 999), 2);
        CHECK.due(30, "within(0, 133, 134), 133 and two thirds", x.within(0, 133, 134), 2);
        CHECK.due(30, "within(0, 134, 134)", x.within(0, 134, 134), 0);
        CHECK.due(30, "within(0, 0, 133)", x.within(0, 0, 133), 5);
        CHECK.due(30, "within(0, 0, 99)", x.within(0, 0, 99), 4);
        CHECK.due(30, "within(0, 53, 53)", x.within(0, 53, 53), 0);
        CHECK.due(30, "within(0, 0, 0)", x.within(0, 0, 0), 0);
        CHECK.due(30, "within(0, 999, 999)", x.within(0, 999, 999), 0);
        int[][] wrong = {{-1, 0, 9}, {3, 0, 9}, {0, -1, 9}, {0, 0, 1000}, {0, 5, 4}, {0, 1000, 1000}, {0, -2, -1},
            {Integer.MAX_VALUE, 0, 9}, {0, Integer.MIN_VALUE, 9}, {0, 0, Integer.MAX_VALUE}};
        for (int[] w : wrong) {
            CHECK.due(30, "within(" + w[0] + ", " + w[1] + ", " + w[2] + ")", x.within(w[0], w[1], w[2]), -1);
        }
    }

    private static void spreads() {
        BlendYard x = Check.yard(YARD);
        CHECK.due(32, "spreadBelow()", x.spreadBelow(), 1);
        CHECK.due(31, "spread(0), nothing lies there", x.spread(0), -2);
        for (int w : new int[] {-1, 3, Integer.MIN_VALUE, Integer.MAX_VALUE}) {
            CHECK.due(31, "spread(" + w + ")", x.spread(w), -1);
        }
        x.lay(0, 0, 0, 2, 4);
        CHECK.due(31, "spread(0), all alike", x.spread(0), 0);
        CHECK.due(32, "spreadBelow()", x.spreadBelow(), 1);
        x.lay(0, 1, 1, 2, 2);
        CHECK.due(31, "spread(0)", x.spread(0), 101);
        CHECK.due(32, "spreadBelow()", x.spreadBelow(), 3);
        x.lay(0, 2, 2, 2, 1);
        CHECK.due(31, "spread(0)", x.spread(0), 101);
        CHECK.due(32, "spreadBelow()", x.spreadBelow(), 3);
        x.lay(0, 2, 2, 2, 4);
        CHECK.due(31, "spread(0), 401 by 3 less 802 by 11", x.spread(0), 2005);
        CHECK.due(32, "spreadBelow()", x.spreadBelow(), 33);
        x.lay(1, 2, 1, 1, 4);
        CHECK.due(31, "spread(1), one cell", x.spread(1), 0);
        CHECK.due(31, "spread(2)", x.spread(2), -2);
        CHECK.due(32, "spreadBelow(), 0 by 1", x.spreadBelow(), 1);
        x.spread(0);
        CHECK.due(31, "spread(2)", x.spread(2), -2);
        CHECK.due(31, "spread(3)", x.spread(3), -1);
        x.cell(0, 0);
        CHECK.due(32, "spreadBelow(), the latest told", x.spreadBelow(), 33);
    }

    private static void twelveCells() {
        BlendYard x = Check.yard("lot a tonnes 900 grade 100;lot b tonnes 900 grade 200;pile p cells 12;pile q cells 12;");
        x.lay(0, 0, 0, 11, 5);
        x.lay(0, 1, 0, 0, 5);
        x.lay(1, 1, 0, 0, 7);
        CHECK.due(31, "spread(0)", x.spread(0), 50);
        CHECK.due(32, "spreadBelow()", x.spreadBelow(), 1);
        CHECK.due(30, "within(0, 0, 999)", x.within(0, 0, 999), 0xfff);
        CHECK.due(30, "within(0, 200, 200)", x.within(0, 200, 200), 0);
        CHECK.due(27, "whole(0)", x.whole(0), 1400);
        CHECK.due(29, "below()", x.below(), 13);
        CHECK.due(7, "pile(0, 2)", x.pile(0, 2), 65);
        CHECK.due(8, "layer(0, 0, 2)", x.layer(0, 0, 2), 0xfff);
    }

    /** A spread whose parts need more than 32 bits on the way, and one whose answer does. */
    private static void widest() {
        BlendYard x = Check.yard("lot a tonnes 9999 grade 999;lot b tonnes 9999 grade 0;lot c tonnes 9999 grade 998;"
            + "pile p cells 2;pile q cells 2;");
        for (int i = 0; i < 58; i++) {
            x.lay(0, 0, 0, 0, 99);
        }
        x.lay(0, 2, 0, 0, 98);
        CHECK.due(31, "spread(0), one cell", x.spread(0), 0);
        x.lay(0, 1, 1, 1, 97);
        CHECK.due(31, "spread(0)", x.spread(0), 2917031);
        CHECK.due(32, "spreadBelow()", x.spreadBelow(), 2920);
        BlendYard y = Check.yard("lot a tonnes 9999 grade 999;lot b tonnes 9999 grade 1;lot c tonnes 99 grade 0;pile p cells 2;");
        for (int i = 0; i < 29; i++) {
            y.lay(0, 0, 0, 0, 99);
            y.lay(0, 1, 1, 1, 99);
        }
        y.lay(0, 2, 0, 0, 2);
        y.lay(0, 2, 1, 1, 1);
        CHECK.due(31, "spread(0) beyond 32 bits", y.spread(0), 2868129L * 2872 - 2871L * 2873);
        CHECK.due(32, "spreadBelow()", y.spreadBelow(), 2873L * 2872);
    }

    private static void ifLaid() {
        BlendYard x = Check.yard(YARD);
        x.lay(0, 0, 0, 2, 4);
        CHECK.due(33, "ifLaid on the cell", x.ifLaid(0, 1, 1, 2, 2, 1), 401);
        CHECK.due(29, "below()", x.below(), 3);
        CHECK.due(33, "ifLaid, first end", x.ifLaid(0, 1, 1, 2, 4, 2), 301);
        CHECK.due(29, "below()", x.below(), 2);
        CHECK.due(33, "ifLaid, other way", x.ifLaid(0, 1, 2, 0, 4, 1), 301);
        CHECK.due(33, "ifLaid beside the cell", x.ifLaid(0, 1, 1, 2, 2, 0), 100);
        CHECK.due(29, "below()", x.below(), 1);
        CHECK.due(33, "ifLaid beside an empty cell", x.ifLaid(0, 1, 0, 2, 2, 3), -2);
        CHECK.due(33, "ifLaid on an empty cell", x.ifLaid(0, 1, 0, 3, 2, 3), 201);
        CHECK.due(33, "ifLaid on an empty pile", x.ifLaid(1, 1, 0, 2, 2, 1), 201);
        CHECK.due(33, "count(8), in thought", x.count(8), 1);
        CHECK.due(33, "stands(0), in thought", x.stands(0), 2);
        CHECK.due(33, "lot(1, 2), in thought", x.lot(1, 2), 900);
        CHECK.due(33, "pile(0, 1), in thought", x.pile(0, 1), 1);
        for (int w : new int[] {-1, 4, Integer.MIN_VALUE, Integer.MAX_VALUE}) {
            CHECK.due(33, "ifLaid, pile " + w, x.ifLaid(w, 1, 0, 0, 2, 0), -1);
            CHECK.due(33, "ifLaid, lot " + w, x.ifLaid(0, w, 0, 0, 2, 0), -1);
            CHECK.due(33, "ifLaid, from " + w, x.ifLaid(0, 1, w, 0, 2, 0), -1);
            CHECK.due(33, "ifLaid, to " + w, x.ifLaid(0, 1, 0, w, 2, 0), -1);
            CHECK.due(33, "ifLaid, cell " + w, x.ifLaid(0, 1, 0, 0, 2, w), -1);
        }
        CHECK.due(33, "ifLaid, cell 3 of pile 1", x.ifLaid(1, 1, 0, 0, 2, 3), -1);
        CHECK.due(33, "ifLaid, t 0", x.ifLaid(0, 1, 0, 0, 0, 0), -1);
        CHECK.due(33, "ifLaid, t 100", x.ifLaid(0, 1, 0, 0, 100, 0), -1);
        x.lay(1, 1, 0, 2, 99);
        x.lay(1, 1, 0, 2, 99);
        x.lay(1, 1, 0, 2, 99);
        CHECK.due(33, "ifLaid, not enough is left", x.ifLaid(0, 1, 0, 1, 5, 0), -1);
        x.cut(0, 1, 1);
        CHECK.due(33, "ifLaid, not apart", x.ifLaid(0, 0, 0, 0, 1, 3), -1);
        CHECK.due(33, "ifLaid, apart", x.ifLaid(0, 0, 3, 3, 1, 3), 100);
    }
}
