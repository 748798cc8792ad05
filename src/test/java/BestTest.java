/** Promises 34 to 38: the lay order, the lot to lay next, the taker's way. */
public final class BestTest {
    private static final Check CHECK = new Check("BestTest");

    public static void main(String[] args) {
        orders();
        wrongOrders();
        withoutEmptyLots();
        firstOfLikeOnes();
        sixLots();
        next();
        wrongNext();
        wayFromElsewhere();
        wayOnThePile();
        wayFull();
        wayWithinBounds();
        wayOfLikeOnes();
        wayMetLater();
        wayOfTwelveCells();
        wayLastCell();
        wrongWays();
        CHECK.end();
    }

    private static void order(BlendYard x, int lots, int aim, int... want) {
        for (int k = 0; k < want.length; k++) {
            CHECK.due(34, "layOrder(" + lots + ", " + aim + ", " + k + ")", x.layOrder(lots, aim, k), want[k]);
        }
        CHECK.due(34, "layOrder(" + lots + ", " + aim + ", -1)", x.layOrder(lots, aim, -1), -2);
        CHECK.due(34, "layOrder(.., MIN)", x.layOrder(lots, aim, Integer.MIN_VALUE), -2);
        CHECK.due(34, "layOrder(.., MAX)", x.layOrder(lots, aim, Integer.MAX_VALUE), -2);
        CHECK.due(34, "layOrder(.., " + want.length + ")", x.layOrder(lots, aim, want.length), -2);
    }

    private static void worst(BlendYard x, int lots, int aim, long above, long below) {
        CHECK.due(35, "worst(" + lots + ", " + aim + ")", x.worst(lots, aim), above);
        CHECK.due(36, "worstBelow()", x.worstBelow(), below);
    }

    private static final String THREE = "lot a tonnes 100 grade 600;lot b tonnes 50 grade 300;lot c tonnes 30 grade 450;pile p cells 2;";

    private static void orders() {
        BlendYard x = Check.yard(THREE);
        CHECK.due(36, "worstBelow()", x.worstBelow(), 1);
        order(x, 3, 450, 0, 1);
        worst(x, 3, 450, 150, 1);
        order(x, 3, 300, 1, 0);
        worst(x, 3, 300, 200, 1);
        order(x, 5, 450, 2, 0);
        worst(x, 5, 450, 1500, 13);
        order(x, 6, 450, 2, 1);
        worst(x, 6, 450, 375, 4);
        // c first; with b behind it 356 and a quarter, with a 565 and more, all three 491 and two thirds.
        order(x, 7, 450, 2, 1, 0);
        worst(x, 7, 450, 375, 4);
        order(x, 7, 600, 0, 1, 2);
        worst(x, 7, 600, 325, 3);
        order(x, 7, 0, 1, 2, 0);
        worst(x, 7, 0, 1475, 3);
        worst(x, 7, 999, 1522, 3);
        x.spread(0);
        x.lay(0, 2, 0, 0, 29);
        worst(x, 5, 450, 15000, 101);
    }

    private static void wrongOrders() {
        BlendYard x = Check.yard(THREE);
        worst(x, 6, 450, 375, 4);
        int[] wrong = {0, 1, 2, 4, 8, 9, 15, 0x80000000, 0x80000001, -1, Integer.MAX_VALUE, 3 << 12};
        for (int lots : wrong) {
            CHECK.due(34, "layOrder(" + lots + ", 450, 0)", x.layOrder(lots, 450, 0), -1);
            CHECK.due(35, "worst(" + lots + ", 450)", x.worst(lots, 450), -1);
        }
        for (int aim : new int[] {-1, 1000, Integer.MIN_VALUE, Integer.MAX_VALUE}) {
            CHECK.due(34, "layOrder(3, " + aim + ", 0)", x.layOrder(3, aim, 0), -1);
            CHECK.due(35, "worst(3, " + aim + ")", x.worst(3, aim), -1);
        }
        CHECK.due(36, "worstBelow(), none was told", x.worstBelow(), 4);
        CHECK.due(35, "worst(3, 0)", x.worst(3, 0), 500);
        CHECK.due(35, "worst(3, 999)", x.worst(3, 999), 499);
    }

    private static void withoutEmptyLots() {
        BlendYard x = Check.yard("lot a tonnes 5 grade 600;lot b tonnes 50 grade 300;lot c tonnes 5 grade 0;pile p cells 2;");
        x.lay(0, 0, 0, 0, 5);
        order(x, 3, 450, 1);
        worst(x, 3, 450, 150, 1);
        order(x, 7, 100, 2, 1);
        x.lay(0, 2, 0, 0, 5);
        order(x, 7, 100, 1);
        CHECK.due(34, "layOrder(5, 100, 0), nothing of them is left", x.layOrder(5, 100, 0), -1);
        CHECK.due(35, "worst(5, 100), nothing of them is left", x.worst(5, 100), -1);
        CHECK.due(34, "layOrder(2, 100, 0), not 2 to 6", x.layOrder(2, 100, 0), -1);
    }

    private static void firstOfLikeOnes() {
        BlendYard x = Check.yard("lot a tonnes 10 grade 500;lot b tonnes 10 grade 500;lot c tonnes 10 grade 100;lot d tonnes 10 grade 500;");
        order(x, 15, 500, 0, 1, 3, 2);
        worst(x, 15, 500, 100, 1);
        // All orders have 500 as their worst with the far lot nowhere better: numbers decide.
        order(x, 11, 0, 0, 1, 3);
        worst(x, 11, 0, 500, 1);
        order(x, 15, 100, 2, 0, 1, 3);
        worst(x, 15, 100, 300, 1);
        // 100 first is the worst there is for 500; any order that doesn't begin so is as good as its end.
        order(x, 12, 500, 3, 2);
        order(x, 14, 300, 1, 2, 3);
    }

    private static void sixLots() {
        BlendYard x = Check.yard("lot a tonnes 10 grade 0;lot b tonnes 10 grade 100;lot c tonnes 10 grade 200;"
            + "lot d tonnes 10 grade 300;lot e tonnes 10 grade 400;lot f tonnes 10 grade 500;lot g tonnes 1 grade 999;");
        order(x, 63, 250, 2, 3, 1, 4, 0, 5);
        worst(x, 63, 250, 50, 1);
        CHECK.due(34, "seven lots", x.layOrder(127, 250, 0), -1);
        CHECK.due(35, "seven lots", x.worst(127, 250), -1);
        worst(x, 0b1111110, 250, 1083, 17);
    }

    private static void next() {
        BlendYard x = Check.yard("lot a tonnes 100 grade 600;lot b tonnes 19 grade 300;lot c tonnes 100 grade 310;"
            + "lot d tonnes 100 grade 290;pile p cells 4;pile q cells 2;ship s needs 9 low 0 high 9 due 1 load 1;");
        CHECK.due(37, "next(0, 4, 300)", x.next(0, 4, 300), 1);
        CHECK.due(37, "next(0, 5, 300), not enough of it is left, of like ones the first", x.next(0, 5, 300), 2);
        CHECK.due(37, "next(1, 9, 300)", x.next(1, 9, 300), 1);
        CHECK.due(37, "next(0, 25, 999)", x.next(0, 25, 999), 0);
        CHECK.due(37, "next(0, 26, 999), of none is enough left", x.next(0, 26, 999), -2);
        CHECK.due(37, "next(0, 1, 0)", x.next(0, 1, 0), 3);
        x.lay(0, 0, 0, 3, 5);
        // The pile's grade counts: 600 lies there, so the lowest brings it nearest to 400.
        CHECK.due(37, "next(0, 5, 400)", x.next(0, 5, 400), 3);
        CHECK.due(37, "next(0, 2, 600)", x.next(0, 2, 600), 0);
        x.park(0);
        x.cut(0, 2, 0);
        CHECK.due(37, "next(0, 5, 400), wherever machines stand", x.next(0, 5, 400), 3);
        CHECK.due(12, "whyLay(0, 3, 0, 3, 5)", x.whyLay(0, 3, 0, 3, 5), 4);
        CHECK.due(37, "next(0, 20, 600), what is left counts", x.next(0, 20, 600), 0);
        CHECK.due(37, "next(0, 21, 600), what is left counts", x.next(0, 21, 600), 2);
    }

    private static void wrongNext() {
        BlendYard x = Check.yard(THREE);
        for (int w : new int[] {-1, 1, Integer.MIN_VALUE, Integer.MAX_VALUE}) {
            CHECK.due(37, "next(" + w + ", 1, 1)", x.next(w, 1, 1), -1);
        }
        for (int t : new int[] {0, -1, 100, Integer.MIN_VALUE, Integer.MAX_VALUE}) {
            CHECK.due(37, "next(0, " + t + ", 1)", x.next(0, t, 1), -1);
        }
        for (int aim : new int[] {-1, 1000, Integer.MIN_VALUE, Integer.MAX_VALUE}) {
            CHECK.due(37, "next(0, 1, " + aim + ")", x.next(0, 1, aim), -1);
        }
        CHECK.due(37, "next(0, 99, 0)", x.next(0, 99, 0), -2);
        CHECK.due(37, "next(0, 50, 999)", x.next(0, 50, 999), 0);
        CHECK.due(37, "next(0, 1, 999)", x.next(0, 1, 999), 0);
        CHECK.due(37, "next(0, 1, 0)", x.next(0, 1, 0), 1);
    }

    private static void way(BlendYard x, int ship, int pile, int steps, int cells, int tonnes) {
        int[] want = {steps, cells, tonnes};
        for (int what = 0; what < 3; what++) {
            CHECK.due(38, "way(" + ship + ", " + pile + ", " + what + ")", x.way(ship, pile, what), want[what]);
        }
    }

    private static final String WAYS = "lot a tonnes 900 grade 100;lot b tonnes 900 grade 400;pile p cells 8;pile q cells 3;gap 0;"
        + "ship s needs 20 low 0 high 999 due 5 load 2;ship t needs 20 low 200 high 300 due 5 load 2;"
        + "ship u needs 999 low 0 high 999 due 5 load 2;ship v needs 5 low 0 high 999 due 5 load 2;";

    private static void wayFromElsewhere() {
        BlendYard x = Check.yard(WAYS);
        way(x, 0, 0, -2, -2, -2);
        x.lay(0, 0, 0, 7, 7);
        way(x, 0, 0, 12, 0b111, 21);
        x.lay(0, 0, 4, 5, 6);
        way(x, 0, 0, 11, 0b11000, 20);
        x.lay(0, 0, 5, 5, 7);
        way(x, 0, 0, 10, 0b100000, 20);
        way(x, 2, 0, -2, -2, -2);
        x.lay(1, 0, 0, 0, 5);
        x.park(0);
        x.cut(1, 0, 3);
        way(x, 0, 0, 10, 0b100000, 20);
    }

    private static void wayOnThePile() {
        BlendYard x = Check.yard(WAYS);
        x.lay(0, 0, 0, 7, 7);
        x.park(0);
        x.cut(0, 4, 3);
        CHECK.due(10, "stands(1)", x.stands(1), 4);
        // Three cells of 7 each: 1, 2, 3 or 5, 6, 7 with 3 steps, or 3, 5 and one beside them with 3 steps.
        way(x, 0, 0, 3, 0b1110, 21);
        x.lay(0, 0, 5, 5, 6);
        way(x, 0, 0, 2, 0b1100000, 20);
        x.park(0);
        x.lay(0, 0, 3, 3, 6);
        way(x, 0, 0, 2, 0b1100, 20);
        x.park(1);
        way(x, 0, 0, 11, 0b1100, 20);
    }

    /** Full by the last cell and not ahead of it; what is in the hold counts. */
    private static void wayFull() {
        BlendYard x = Check.yard(WAYS);
        x.lay(0, 0, 2, 5, 12);
        x.park(0);
        way(x, 0, 0, 11, 0b1100, 24);
        x.cut(0, 2, 0);
        way(x, 0, 0, 1, 0b1000, 24);
        x.undo();
        x.lay(0, 0, 2, 2, 12);
        way(x, 0, 0, 10, 0b100, 24);
    }

    private static void wayWithinBounds() {
        BlendYard x = Check.yard(WAYS);
        x.lay(0, 0, 0, 3, 20);
        x.lay(0, 1, 5, 7, 20);
        // A single cell fills the ship, but one is too low, the other too high.
        way(x, 1, 0, -2, -2, -2);
        x.lay(1, 0, 0, 0, 10);
        x.lay(1, 1, 1, 1, 10);
        x.lay(1, 1, 2, 2, 5);
        way(x, 1, 1, 11, 0b11, 20);
        way(x, 0, 1, 11, 0b11, 20);
        x.lay(1, 0, 2, 2, 10);
        // 15 tonnes of grade 200 behind 10 of 100, or behind 10 of 400.
        x.cut(1, 0, 1);
        way(x, 1, 1, 1, 0b10, 20);
        x.undo();
        BlendYard low = Check.yard("lot a tonnes 99 grade 199;lot b tonnes 99 grade 200;lot c tonnes 99 grade 301;lot d tonnes 99 grade 300;"
            + "pile p cells 4;ship s needs 5 low 200 high 300 due 5 load 2;");
        low.lay(0, 0, 0, 0, 5);
        low.lay(0, 1, 1, 1, 5);
        low.lay(0, 2, 2, 2, 5);
        low.lay(0, 3, 3, 3, 5);
        way(low, 0, 0, 10, 0b10, 5);
        low.park(0);
        low.lay(0, 0, 1, 1, 1);
        way(low, 0, 0, 10, 0b1000, 5);
    }

    /** The fewest steps, then the fewest cells, then the least as bits. */
    private static void wayOfLikeOnes() {
        BlendYard x = Check.yard("lot a tonnes 900 grade 100;pile p cells 6;gap 0;ship s needs 20 low 0 high 999 due 5 load 2;"
            + "ship t needs 1 low 0 high 999 due 5 load 2;");
        x.lay(0, 0, 0, 0, 6);
        x.lay(0, 0, 1, 2, 7);
        x.lay(0, 0, 3, 3, 14);
        way(x, 0, 0, 11, 0b1100, 21);
        x.lay(0, 0, 1, 1, 7);
        // 0 and 1, 1 and 2, 2 and 3 have a step between them and two cells each.
        way(x, 0, 0, 11, 0b11, 20);
        x.lay(0, 0, 5, 5, 5);
        x.park(0);
        x.cut(0, 5, 1);
        CHECK.due(10, "stands(1)", x.stands(1), 5);
        way(x, 0, 0, 3, 0b1100, 21);
        x.undo();
        x.undo();
        x.undo();
        x.lay(0, 0, 4, 4, 1);
        x.park(0);
        x.cut(0, 4, 1);
        way(x, 0, 0, 2, 0b1100, 21);
        BlendYard y = Check.yard("lot a tonnes 900 grade 100;pile p cells 6;gap 0;ship s needs 20 low 0 high 999 due 5 load 2;");
        y.lay(0, 0, 0, 0, 9);
        y.lay(0, 0, 1, 2, 1);
        y.lay(0, 0, 3, 3, 17);
        // From 0 to 3 whatever lies between: the fewest cells.
        way(y, 0, 0, 13, 0b1001, 26);
    }

    /** A set that is met later may have fewer bits or fewer cells. */
    private static void wayMetLater() {
        int[][] piles = {{9, 9, 11}, {5, 5, 9, 11}};
        int[][] ways = {{2, 0b101, 20}, {3, 0b1100, 20}};
        for (int i = 0; i < 2; i++) {
            BlendYard x = Check.yard("lot a tonnes 900 grade 100;pile p cells 12;gap 0;ship s needs 20 low 0 high 999 due 5 load 2;");
            for (int cell = 0; cell < piles[i].length; cell++) {
                x.lay(0, 0, cell, cell, piles[i][cell]);
            }
            // By an order that is not done yet the taker stands on a cell on which something lies.
            x.park(0);
            x.toCut(0, 0, 0);
            x.minutes(10);
            CHECK.due(10, "stands(1)", x.stands(1), 0);
            way(x, 0, 0, ways[i][0], ways[i][1], ways[i][2]);
        }
    }

    private static void wayOfTwelveCells() {
        BlendYard x = Check.yard("lot a tonnes 900 grade 100;pile p cells 12;gap 0;ship s needs 24 low 0 high 999 due 5 load 2;"
            + "ship t needs 25 low 0 high 999 due 5 load 2;ship u needs 23 low 0 high 999 due 5 load 2;");
        x.lay(0, 0, 0, 11, 2);
        way(x, 0, 0, 21, 0xfff, 24);
        way(x, 1, 0, -2, -2, -2);
        way(x, 2, 0, 21, 0xfff, 24);
        x.lay(0, 0, 11, 11, 20);
        way(x, 0, 0, 11, 0xc00, 24);
    }

    /** From the cell between both ends alike the highest one is the last, also where the other way round would do. */
    private static void wayLastCell() {
        BlendYard x = Check.yard("lot a tonnes 900 grade 100;pile p cells 5;gap 0;ship s needs 20 low 0 high 999 due 5 load 2;"
            + "ship t needs 1 low 0 high 999 due 5 load 2;");
        x.lay(0, 0, 1, 1, 6);
        x.lay(0, 0, 3, 3, 25);
        x.lay(0, 0, 2, 2, 1);
        x.park(0);
        x.cut(0, 2, 1);
        way(x, 0, 0, 1, 0b1000, 25);
        BlendYard y = Check.yard("lot a tonnes 900 grade 500;lot b tonnes 900 grade 0;pile p cells 5;gap 0;"
            + "ship s needs 20 low 0 high 400 due 5 load 2;ship t needs 1 low 0 high 999 due 5 load 2;");
        y.lay(0, 0, 3, 3, 25);
        y.lay(0, 1, 1, 1, 19);
        y.lay(0, 1, 2, 2, 1);
        y.park(0);
        y.cut(0, 2, 1);
        CHECK.due(10, "stands(1)", y.stands(1), 2);
        way(y, 0, 0, 3, 0b1010, 44);
        BlendYard z = Check.yard("lot a tonnes 900 grade 500;lot b tonnes 900 grade 0;pile p cells 5;gap 0;"
            + "ship s needs 20 low 0 high 400 due 5 load 2;ship t needs 2 low 0 high 999 due 5 load 2;");
        z.lay(0, 0, 1, 1, 25);
        z.lay(0, 1, 3, 3, 19);
        z.lay(0, 1, 2, 2, 1);
        z.park(0);
        z.cut(0, 2, 1);
        way(z, 0, 0, -2, -2, -2);
        z.lay(0, 1, 4, 4, 1);
        z.park(0);
        z.cut(0, 4, 1);
        CHECK.due(10, "stands(1)", z.stands(1), 4);
        way(z, 0, 0, 3, 0b1010, 44);
        z.park(1);
        way(z, 0, 0, -2, -2, -2);
    }

    private static void wrongWays() {
        BlendYard x = Check.yard(WAYS);
        x.lay(0, 0, 0, 7, 7);
        for (int w : new int[] {-1, 4, Integer.MIN_VALUE, Integer.MAX_VALUE}) {
            CHECK.due(38, "way(" + w + ", 0, 0)", x.way(w, 0, 0), -1);
            CHECK.due(38, "way(0, " + w + ", 0)", x.way(0, w, 0), -1);
            CHECK.due(38, "way(0, 0, " + w + ")", x.way(0, 0, w), -1);
        }
        CHECK.due(38, "way(0, 0, 3)", x.way(0, 0, 3), -1);
        CHECK.due(38, "way(0, 2, 0)", x.way(0, 2, 0), -1);
        CHECK.due(38, "way(0, 1, 3), none and others", x.way(0, 1, 3), -1);
        CHECK.due(38, "way(0, 1, 0), none", x.way(0, 1, 0), -2);
        x.park(0);
        x.cut(0, 3, 3);
        CHECK.due(38, "way(3, 0, 0), full", x.way(3, 0, 0), -1);
        x.sail(3);
        CHECK.due(38, "way(3, 0, 0), it sailed", x.way(3, 0, 0), -1);
        int before = x.count(7);
        x.way(0, 0, 0);
        CHECK.due(38, "count(7), in thought", x.count(7), before);
    }
}
