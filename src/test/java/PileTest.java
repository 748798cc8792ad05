/** Promises 7 to 16: piles, layers, where machines stand, laying, cutting, parking. */
public final class PileTest {
    private static final Check CHECK = new Check("PileTest");
    private static final String YARD = "lot a tonnes 500 grade 100;lot b tonnes 40 grade 250;lot c tonnes 1 grade 999;"
        + "pile p cells 6;pile q cells 3;ship s needs 30 low 0 high 999 due 5 load 2;ship t needs 99 low 0 high 9 due 5 load 2;";

    public static void main(String[] args) {
        layers();
        steps();
        whyLay();
        whyCut();
        cutting();
        apart(0);
        apart(1);
        apart(2);
        apart(3);
        sweeps();
        sixtyLayers();
        parking();
        CHECK.end();
    }

    private static void layers() {
        BlendYard x = Check.yard(YARD);
        CHECK.due(8, "layer(0, 0, 0), no layer", x.layer(0, 0, 0), -2);
        CHECK.due(9, "tonnes(0, 0, 0), no layer", x.tonnes(0, 0, 0), -2);
        CHECK.due(13, "lay(0, 0, 1, 4, 5)", x.lay(0, 0, 1, 4, 5), 13);
        CHECK.due(13, "lay(0, 1, 3, 2, 7)", x.lay(0, 1, 3, 2, 7), 2);
        CHECK.due(13, "lay(1, 2, 2, 2, 1)", x.lay(1, 2, 2, 2, 1), 10);
        CHECK.due(7, "pile(0, 1)", x.pile(0, 1), 2);
        CHECK.due(7, "pile(0, 2)", x.pile(0, 2), 34);
        CHECK.due(7, "pile(1, 1)", x.pile(1, 1), 1);
        CHECK.due(7, "pile(1, 2)", x.pile(1, 2), 1);
        CHECK.due(13, "lot(0, 2)", x.lot(0, 2), 480);
        CHECK.due(13, "lot(1, 2)", x.lot(1, 2), 26);
        CHECK.due(13, "lot(2, 2)", x.lot(2, 2), 0);
        CHECK.due(5, "lot(0, 0), as told", x.lot(0, 0), 500);
        int[][] want = {{0, 20, 0b011110}, {1, 14, 0b001100}};
        for (int layer = 0; layer < 2; layer++) {
            for (int what = 0; what < 3; what++) {
                CHECK.due(8, "layer(0, " + layer + ", " + what + ")", x.layer(0, layer, what), want[layer][what]);
            }
        }
        CHECK.due(8, "layer(1, 0, 0)", x.layer(1, 0, 0), 2);
        CHECK.due(8, "layer(1, 0, 2)", x.layer(1, 0, 2), 4);
        int[][] lying = {{0, 5, 5, 5, 5, 0}, {0, 0, 7, 7, 0, 0}};
        for (int layer = 0; layer < 2; layer++) {
            for (int cell = 0; cell < 6; cell++) {
                CHECK.due(9, "tonnes(0, " + layer + ", " + cell + ")", x.tonnes(0, layer, cell), lying[layer][cell]);
            }
        }
        int[][] wrongLayers = {{0, 2, 0}, {0, -1, 0}, {-1, 0, 0}, {2, 0, 0}, {0, 0, -1}, {0, 0, 3}, {1, 1, 0}, {Integer.MAX_VALUE, 0, 0}};
        for (int[] w : wrongLayers) {
            CHECK.due(8, "layer(" + w[0] + ", " + w[1] + ", " + w[2] + ")", x.layer(w[0], w[1], w[2]), -2);
        }
        int[][] wrongTonnes = {{0, 2, 0}, {0, -1, 0}, {-1, 0, 0}, {2, 0, 0}, {0, 0, -1}, {0, 0, 6}, {1, 0, 3}, {0, Integer.MAX_VALUE, 0}};
        for (int[] w : wrongTonnes) {
            CHECK.due(9, "tonnes(" + w[0] + ", " + w[1] + ", " + w[2] + ")", x.tonnes(w[0], w[1], w[2]), -2);
        }
    }

    private static void steps() {
        BlendYard x = Check.yard(YARD);
        CHECK.due(10, "stands(0)", x.stands(0), -1);
        CHECK.due(13, "lay(0, 0, 5, 5, 1)", x.lay(0, 0, 5, 5, 1), 10);
        CHECK.due(10, "stands(0)", x.stands(0), 5);
        CHECK.due(13, "lay(0, 0, 5, 5, 1) again", x.lay(0, 0, 5, 5, 1), 0);
        CHECK.due(13, "lay(0, 0, 2, 4, 1)", x.lay(0, 0, 2, 4, 1), 5);
        CHECK.due(10, "stands(0)", x.stands(0), 4);
        CHECK.due(13, "lay(1, 0, 0, 2, 1)", x.lay(1, 0, 0, 2, 1), 12);
        CHECK.due(10, "stands(0)", x.stands(0), 102);
        CHECK.due(4, "count(6)", x.count(6), 27);
        CHECK.due(15, "cut(0, 5, 1)", x.cut(0, 5, 1), 2);
        CHECK.due(10, "stands(1)", x.stands(1), 5);
        CHECK.due(4, "count(7)", x.count(7), 10);
        CHECK.due(15, "cut(0, 3, 1)", x.cut(0, 3, 1), 1);
        CHECK.due(4, "count(7)", x.count(7), 12);
        CHECK.due(15, "cut(1, 0, 0)", x.cut(1, 0, 0), 1);
        CHECK.due(10, "stands(1)", x.stands(1), 100);
        CHECK.due(4, "count(7)", x.count(7), 22);
        CHECK.due(4, "count(6)", x.count(6), 27);
        CHECK.due(11, "apart()", x.apart(), 2);
        for (int wrong : new int[] {-1, 2, Integer.MIN_VALUE}) {
            CHECK.due(10, "stands(" + wrong + ")", x.stands(wrong), -2);
        }
    }

    private static void why(BlendYard x, int want, int pile, int lot, int from, int to, int t) {
        String call = "(" + pile + ", " + lot + ", " + from + ", " + to + ", " + t + ")";
        CHECK.due(12, "whyLay" + call, x.whyLay(pile, lot, from, to, t), want);
        if (want != 0) {
            int before = x.count(8);
            int stood = x.stands(0);
            CHECK.due(13, "lay" + call, x.lay(pile, lot, from, to, t), -1);
            CHECK.due(13, "count(8), nothing happened", x.count(8), before);
            CHECK.due(13, "stands(0), nothing happened", x.stands(0), stood);
        }
    }

    private static void whyLay() {
        BlendYard x = Check.yard(YARD);
        int[] wrong = {-1, 6, Integer.MIN_VALUE, Integer.MAX_VALUE};
        for (int w : wrong) {
            why(x, 1, w, 0, 0, 0, 1);
            why(x, 1, 0, w, 0, 0, 1);
            why(x, 1, 0, 0, w, 0, 1);
            why(x, 1, 0, 0, 0, w, 1);
        }
        why(x, 1, 2, 0, 0, 0, 1);
        why(x, 1, 0, 3, 0, 0, 1);
        why(x, 1, 1, 0, 3, 0, 1);
        why(x, 1, 1, 0, 0, 3, 1);
        why(x, 1, 0, 0, 0, 0, 0);
        why(x, 1, 0, 0, 0, 0, -5);
        why(x, 1, 0, 0, 0, 0, 100);
        why(x, 1, 0, 0, 0, 0, Integer.MAX_VALUE);
        why(x, 0, 0, 0, 0, 0, 99);
        why(x, 0, 0, 0, 0, 0, 1);
        why(x, 0, 0, 1, 0, 3, 10);
        why(x, 2, 0, 1, 0, 3, 11);
        why(x, 2, 0, 1, 4, 0, 10);
        why(x, 0, 0, 2, 4, 4, 1);
        why(x, 2, 0, 2, 4, 5, 1);
        why(x, 2, 0, 0, 0, 5, 84);
        why(x, 0, 0, 0, 0, 5, 83);
        x.lay(0, 0, 5, 5, 5);
        x.park(0);
        x.cut(0, 5, 0);
        why(x, 4, 0, 0, 0, 5, 1);
        why(x, 2, 0, 0, 0, 5, 83);
        why(x, 1, 0, 0, 0, 6, 83);
    }

    private static void whyCutIs(BlendYard x, int want, int pile, int cell, int ship) {
        String call = "(" + pile + ", " + cell + ", " + ship + ")";
        CHECK.due(14, "whyCut" + call, x.whyCut(pile, cell, ship), want);
        if (want != 0) {
            int before = x.count(8);
            CHECK.due(15, "cut" + call, x.cut(pile, cell, ship), -1);
            CHECK.due(15, "count(8), nothing happened", x.count(8), before);
        }
    }

    private static void whyCut() {
        BlendYard x = Check.yard(YARD);
        whyCutIs(x, 2, 0, 0, 0);
        x.lay(0, 0, 0, 5, 20);
        x.lay(0, 0, 0, 0, 1);
        for (int w : new int[] {-1, 6, Integer.MIN_VALUE, Integer.MAX_VALUE}) {
            whyCutIs(x, 1, w, 0, 0);
            whyCutIs(x, 1, 0, w, 0);
            whyCutIs(x, 1, 0, 0, w);
        }
        whyCutIs(x, 1, 0, 0, 2);
        whyCutIs(x, 1, 2, 0, 0);
        whyCutIs(x, 1, 1, 3, 0);
        whyCutIs(x, 2, 1, 2, 0);
        whyCutIs(x, 4, 0, 0, 0);
        whyCutIs(x, 4, 0, 1, 0);
        whyCutIs(x, 0, 0, 2, 0);
        x.cut(0, 5, 0);
        whyCutIs(x, 2, 0, 5, 0);
        whyCutIs(x, 4, 0, 1, 0);
        x.cut(0, 4, 0);
        CHECK.due(15, "ship(0, 6)", x.ship(0, 6), 40);
        whyCutIs(x, 2, 0, 4, 0);
        whyCutIs(x, 3, 0, 3, 0);
        whyCutIs(x, 3, 0, 0, 0);
        whyCutIs(x, 0, 0, 3, 1);
        x.sail(0);
        whyCutIs(x, 3, 0, 3, 0);
    }

    private static void cutting() {
        BlendYard x = Check.yard(YARD);
        x.lay(0, 0, 0, 5, 10);
        x.lay(0, 1, 5, 4, 10);
        x.park(0);
        CHECK.due(15, "cut(0, 4, 0)", x.cut(0, 4, 0), 20);
        CHECK.due(15, "ship(0, 6)", x.ship(0, 6), 20);
        CHECK.due(15, "layer(0, 0, 1)", x.layer(0, 0, 1), 50);
        CHECK.due(15, "layer(0, 1, 2)", x.layer(0, 1, 2), 32);
        CHECK.due(15, "cut(0, 5, 1)", x.cut(0, 5, 1), 20);
        CHECK.due(8, "layer(0, 1, 0) of which nothing lies any more", x.layer(0, 1, 0), 1);
        CHECK.due(8, "layer(0, 1, 1)", x.layer(0, 1, 1), 0);
        CHECK.due(8, "layer(0, 1, 2)", x.layer(0, 1, 2), 0);
        CHECK.due(9, "tonnes(0, 1, 5)", x.tonnes(0, 1, 5), 0);
        CHECK.due(7, "pile(0, 1)", x.pile(0, 1), 2);
        CHECK.due(7, "pile(0, 2)", x.pile(0, 2), 40);
        x.park(1);
        CHECK.due(13, "lay(0, 0, 4, 5, 3), on top again", x.lay(0, 0, 4, 5, 3), 11);
        CHECK.due(8, "layer(0, 2, 2)", x.layer(0, 2, 2), 48);
        CHECK.due(9, "tonnes(0, 2, 4)", x.tonnes(0, 2, 4), 3);
    }

    private static void apart(int gap) {
        BlendYard x = Check.yard("lot a tonnes 900 grade 1;pile p cells 12;pile q cells 12;gap " + gap + ";"
            + "ship s needs 999 low 0 high 9 due 5 load 2;");
        CHECK.due(11, "apart(), nowhere", x.apart(), -2);
        x.lay(0, 0, 0, 11, 9);
        x.lay(0, 0, 5, 5, 9);
        CHECK.due(11, "apart(), one stands", x.apart(), -2);
        for (int cell = 0; cell < 12; cell++) {
            boolean near = Math.abs(cell - 5) <= gap;
            CHECK.due(14, "whyCut(0, " + cell + ", 0), gap " + gap, x.whyCut(0, cell, 0), near ? 4 : 0);
        }
        x.park(0);
        x.cut(0, 6, 0);
        CHECK.due(11, "apart(), the other one stands", x.apart(), -2);
        for (int cell = 0; cell < 12; cell++) {
            boolean near = Math.abs(cell - 6) <= gap;
            CHECK.due(12, "whyLay(0, 0, " + cell + ".. , gap " + gap, x.whyLay(0, 0, cell, cell, 1), near ? 4 : 0);
            CHECK.due(12, "whyLay(1, 0, " + cell + ".. , gap " + gap, x.whyLay(1, 0, cell, cell, 1), 0);
        }
        x.lay(1, 0, 6, 6, 1);
        CHECK.due(11, "apart(), two piles", x.apart(), -2);
        x.lay(0, 0, 10, 11, 1);
        CHECK.due(11, "apart()", x.apart(), 5);
    }

    /** On its way on one pile a machine sweeps the cells between; from elsewhere it doesn't. */
    private static void sweeps() {
        BlendYard x = Check.yard("lot a tonnes 900 grade 1;pile p cells 12;pile q cells 2;gap 1;"
            + "ship s needs 999 low 0 high 9 due 5 load 2;");
        x.lay(0, 0, 0, 11, 9);
        x.lay(0, 0, 0, 0, 9);
        CHECK.due(15, "cut(0, 6, 0)", x.cut(0, 6, 0), 9);
        CHECK.due(12, "whyLay(0, 0, 9, 11, 1), the taker is on the way", x.whyLay(0, 0, 9, 11, 1), 4);
        CHECK.due(12, "whyLay(0, 0, 4, 3, 1)", x.whyLay(0, 0, 4, 3, 1), 0);
        CHECK.due(12, "whyLay(0, 0, 3, 5, 1)", x.whyLay(0, 0, 3, 5, 1), 4);
        CHECK.due(12, "whyLay(0, 0, 5, 3, 1)", x.whyLay(0, 0, 5, 3, 1), 4);
        x.lay(1, 0, 0, 0, 1);
        CHECK.due(12, "whyLay(0, 0, 9, 11, 1), from another pile", x.whyLay(0, 0, 9, 11, 1), 0);
        CHECK.due(12, "whyLay(0, 0, 4, 8, 1), along it", x.whyLay(0, 0, 4, 8, 1), 4);
        CHECK.due(12, "whyLay(0, 0, 8, 4, 1), along it", x.whyLay(0, 0, 8, 4, 1), 4);
        x.park(0);
        CHECK.due(12, "whyLay(0, 0, 9, 11, 1), from nowhere", x.whyLay(0, 0, 9, 11, 1), 0);
        CHECK.due(13, "lay(0, 0, 11, 9, 1)", x.lay(0, 0, 11, 9, 1), 12);
        CHECK.due(14, "whyCut(0, 11, 0), the stacker is on the way", x.whyCut(0, 11, 0), 4);
        CHECK.due(14, "whyCut(0, 0, 0)", x.whyCut(0, 0, 0), 0);
        x.park(0);
        x.lay(0, 0, 1, 1, 1);
        CHECK.due(14, "whyCut(0, 11, 0)", x.whyCut(0, 11, 0), 0);
        CHECK.due(14, "whyCut(0, 0, 0), behind the stacker", x.whyCut(0, 0, 0), 4);
        x.park(0);
        x.lay(0, 0, 3, 3, 1);
        CHECK.due(14, "whyCut(0, 0, 0), the stacker is on the way down", x.whyCut(0, 0, 0), 4);
        x.park(0);
        x.lay(0, 0, 11, 11, 1);
        CHECK.due(12, "whyLay(0, 0, 2, 3, 1), the taker is on the way down", x.whyLay(0, 0, 2, 3, 1), 4);
        CHECK.due(12, "whyLay(0, 0, 9, 8, 1)", x.whyLay(0, 0, 9, 8, 1), 0);
        x.park(0);
        x.lay(0, 0, 1, 1, 1);
        x.park(1);
        CHECK.due(14, "whyCut(0, 11, 0), from nowhere", x.whyCut(0, 11, 0), 0);
        CHECK.due(14, "whyCut(0, 3, 0), from nowhere", x.whyCut(0, 3, 0), 0);
    }

    private static void sixtyLayers() {
        BlendYard x = Check.yard("lot a tonnes 100 grade 1;pile p cells 2;pile q cells 12;pile r cells 12;gap 0;"
            + "ship s needs 9 low 0 high 9 due 5 load 2;");
        for (int i = 0; i < 60; i++) {
            CHECK.due(13, "lay " + i, x.lay(0, 0, 0, 0, 1), i == 0 ? 10 : 0);
        }
        CHECK.due(7, "pile(0, 1)", x.pile(0, 1), 60);
        CHECK.due(12, "whyLay, 60 layers", x.whyLay(0, 0, 0, 0, 1), 5);
        CHECK.due(13, "lay, 60 layers", x.lay(0, 0, 0, 0, 1), -1);
        CHECK.due(33, "ifLaid, 60 layers", x.ifLaid(0, 0, 0, 0, 1, 0), -1);
        CHECK.due(12, "whyLay, not enough is left", x.whyLay(0, 0, 0, 0, 50), 2);
        CHECK.due(37, "next, however many layers there are", x.next(0, 1, 5), 0);
        CHECK.due(12, "whyLay, another pile", x.whyLay(1, 0, 11, 11, 1), 0);
        CHECK.due(8, "layer(0, 59, 1)", x.layer(0, 59, 1), 1);
        CHECK.due(8, "layer(0, 60, 1)", x.layer(0, 60, 1), -2);
        x.park(0);
        x.cut(0, 0, 0);
        CHECK.due(12, "whyLay, the taker is there and 60 layers", x.whyLay(0, 0, 0, 0, 1), 4);
        CHECK.due(12, "whyLay, 60 empty layers", x.whyLay(0, 0, 1, 1, 1), 5);
        CHECK.due(12, "whyLay, another pile", x.whyLay(2, 0, 11, 0, 1), 0);
    }

    private static void parking() {
        BlendYard x = Check.yard(YARD);
        CHECK.due(16, "park(0), it is there", x.park(0), false);
        CHECK.due(16, "park(1), it is there", x.park(1), false);
        x.lay(0, 0, 0, 5, 9);
        CHECK.due(16, "park(-1)", x.park(-1), false);
        CHECK.due(16, "park(2)", x.park(2), false);
        CHECK.due(16, "count(8)", x.count(8), 1);
        CHECK.due(16, "park(0)", x.park(0), true);
        CHECK.due(16, "stands(0)", x.stands(0), -1);
        CHECK.due(16, "count(6), no steps", x.count(6), 15);
        CHECK.due(16, "count(8)", x.count(8), 2);
        CHECK.due(13, "lay from nowhere", x.lay(0, 0, 0, 0, 1), 10);
        x.cut(0, 4, 0);
        CHECK.due(16, "park(1)", x.park(1), true);
        CHECK.due(16, "stands(1)", x.stands(1), -1);
        CHECK.due(16, "stands(0)", x.stands(0), 0);
    }
}
