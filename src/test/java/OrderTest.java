/** Promises 19 to 23: orders, and the minutes in which the machines do them. */
public final class OrderTest {
    private static final Check CHECK = new Check("OrderTest");
    private static final String YARD = "lot a tonnes 500 grade 10;lot b tonnes 3 grade 20;pile p cells 6;pile q cells 4;"
        + "ship s needs 10 low 0 high 999 due 5 load 1;ship t needs 999 low 0 high 999 due 5 load 1;gap 1;";

    public static void main(String[] args) {
        toLay();
        toCut();
        drop();
        wrongMinutes();
        layingAlone();
        layingDownwards();
        cuttingAlone();
        runsShort();
        nothingIsLeft();
        sixtyLayers();
        theTakerIsFirst();
        waitsForTheGoal();
        waitsOnThePile();
        staysWhileOnTheWay();
        theWayIsZeroAgain();
        bothWait();
        shipsThatTakeNoMore();
        theGoalNext();
        sixteenOrders();
        ends();
        CHECK.end();
    }

    private static void toLay() {
        BlendYard x = Check.yard(YARD);
        for (int w : new int[] {-1, 6, Integer.MIN_VALUE, Integer.MAX_VALUE}) {
            CHECK.due(19, "toLay of pile " + w, x.toLay(w, 0, 0, 0, 1), -1);
            CHECK.due(19, "toLay of lot " + w, x.toLay(0, w, 0, 0, 1), -1);
            CHECK.due(19, "toLay from " + w, x.toLay(0, 0, w, 0, 1), -1);
            CHECK.due(19, "toLay to " + w, x.toLay(0, 0, 0, w, 1), -1);
        }
        CHECK.due(19, "toLay of t 0", x.toLay(0, 0, 0, 0, 0), -1);
        CHECK.due(19, "toLay of t 100", x.toLay(0, 0, 0, 0, 100), -1);
        CHECK.due(19, "count(8)", x.count(8), 0);
        CHECK.due(19, "toLay of more than is left", x.toLay(0, 1, 0, 5, 99), 1);
        for (int n = 2; n <= 8; n++) {
            CHECK.due(19, "toLay " + n, x.toLay(1, 0, 3, 0, 99), n);
        }
        CHECK.due(19, "toLay, 8 are there", x.toLay(0, 0, 0, 0, 1), -1);
        CHECK.due(4, "count(12)", x.count(12), 8);
        CHECK.due(4, "count(13)", x.count(13), 0);
        CHECK.due(4, "count(8)", x.count(8), 8);
    }

    private static void toCut() {
        BlendYard x = Check.yard(YARD);
        for (int w : new int[] {-1, 6, Integer.MIN_VALUE, Integer.MAX_VALUE}) {
            CHECK.due(20, "toCut of pile " + w, x.toCut(w, 0, 0), -1);
            CHECK.due(20, "toCut of cell " + w, x.toCut(0, w, 0), -1);
            CHECK.due(20, "toCut of ship " + w, x.toCut(0, 0, w), -1);
        }
        CHECK.due(20, "toCut of cell 4 of pile 1", x.toCut(1, 4, 0), -1);
        CHECK.due(20, "count(8)", x.count(8), 0);
        for (int n = 1; n <= 8; n++) {
            CHECK.due(20, "toCut " + n, x.toCut(0, 5, 1), n);
        }
        CHECK.due(20, "toCut, 8 are there", x.toCut(0, 0, 0), -1);
        CHECK.due(4, "count(13)", x.count(13), 8);
        CHECK.due(4, "count(12)", x.count(12), 0);
    }

    private static void drop() {
        BlendYard x = Check.yard(YARD);
        CHECK.due(21, "drop(0), none", x.drop(0), -1);
        CHECK.due(21, "drop(1), none", x.drop(1), -1);
        x.toLay(0, 0, 0, 5, 1);
        x.toLay(0, 0, 0, 5, 1);
        x.toCut(0, 0, 0);
        CHECK.due(21, "drop(-1)", x.drop(-1), -1);
        CHECK.due(21, "drop(2)", x.drop(2), -1);
        CHECK.due(21, "count(8)", x.count(8), 3);
        CHECK.due(21, "drop(0)", x.drop(0), 2);
        CHECK.due(21, "count(12)", x.count(12), 0);
        CHECK.due(21, "count(13)", x.count(13), 1);
        CHECK.due(21, "drop(0) again", x.drop(0), -1);
        CHECK.due(21, "drop(1)", x.drop(1), 1);
        CHECK.due(21, "count(8)", x.count(8), 5);
    }

    private static void wrongMinutes() {
        BlendYard x = Check.yard(YARD);
        for (int w : new int[] {0, -1, 201, Integer.MIN_VALUE, Integer.MAX_VALUE}) {
            CHECK.due(22, "minutes(" + w + ")", x.minutes(w), -1);
        }
        CHECK.due(22, "count(8)", x.count(8), 0);
        CHECK.due(22, "minutes(200)", x.minutes(200), 0);
        CHECK.due(22, "minutes(1)", x.minutes(1), 0);
        CHECK.due(4, "count(16)", x.count(16), 201);
        CHECK.due(4, "count(8)", x.count(8), 2);
    }

    private static void layingAlone() {
        BlendYard x = Check.yard(YARD);
        x.toLay(0, 0, 1, 3, 4);
        CHECK.due(22, "minutes(9)", x.minutes(9), 0);
        CHECK.due(22, "stands(0), on the way", x.stands(0), -1);
        CHECK.due(22, "count(6), on the way", x.count(6), 0);
        x.minutes(1);
        CHECK.due(22, "stands(0)", x.stands(0), 1);
        CHECK.due(22, "count(6)", x.count(6), 10);
        CHECK.due(22, "pile(0, 1), nothing is laid yet", x.pile(0, 1), 0);
        x.minutes(1);
        CHECK.due(22, "pile(0, 1)", x.pile(0, 1), 1);
        CHECK.due(22, "tonnes(0, 0, 1)", x.tonnes(0, 0, 1), 4);
        CHECK.due(22, "layer(0, 0, 2)", x.layer(0, 0, 2), 2);
        CHECK.due(22, "stands(0), in the same minute", x.stands(0), 2);
        CHECK.due(22, "count(6)", x.count(6), 11);
        CHECK.due(22, "lot(0, 2)", x.lot(0, 2), 496);
        x.lay(0, 0, 2, 2, 7);
        x.minutes(1);
        CHECK.due(22, "pile(0, 1), the layer of the order stays the lower one", x.pile(0, 1), 2);
        CHECK.due(22, "tonnes(0, 0, 2)", x.tonnes(0, 0, 2), 4);
        CHECK.due(22, "tonnes(0, 1, 2)", x.tonnes(0, 1, 2), 7);
        CHECK.due(4, "count(12)", x.count(12), 1);
        x.minutes(1);
        CHECK.due(4, "count(12), it is done", x.count(12), 0);
        CHECK.due(22, "stands(0)", x.stands(0), 3);
        CHECK.due(22, "layer(0, 0, 2)", x.layer(0, 0, 2), 14);
        CHECK.due(4, "count(14)", x.count(14), 0);
        CHECK.due(4, "count(16)", x.count(16), 13);
    }

    private static void layingDownwards() {
        BlendYard x = Check.yard(YARD);
        x.lay(0, 0, 0, 0, 1);
        x.toLay(0, 0, 5, 4, 4);
        x.toLay(0, 0, 4, 4, 2);
        CHECK.due(22, "minutes(5)", x.minutes(5), 0);
        CHECK.due(22, "stands(0), a cell a minute", x.stands(0), 5);
        CHECK.due(22, "count(6)", x.count(6), 15);
        x.minutes(2);
        CHECK.due(22, "layer(0, 1, 2)", x.layer(0, 1, 2), 48);
        CHECK.due(4, "count(12)", x.count(12), 1);
        x.minutes(1);
        CHECK.due(4, "count(12)", x.count(12), 0);
        CHECK.due(22, "tonnes(0, 2, 4)", x.tonnes(0, 2, 4), 2);
    }

    private static void cuttingAlone() {
        BlendYard x = Check.yard(YARD);
        x.lay(0, 0, 0, 5, 4);
        x.park(0);
        x.toCut(0, 3, 0);
        x.toCut(0, 1, 0);
        x.minutes(10);
        CHECK.due(22, "stands(1)", x.stands(1), 3);
        CHECK.due(22, "count(7)", x.count(7), 10);
        CHECK.due(22, "ship(0, 6)", x.ship(0, 6), 0);
        x.minutes(1);
        CHECK.due(22, "ship(0, 6)", x.ship(0, 6), 4);
        CHECK.due(22, "count(13)", x.count(13), 1);
        x.minutes(1);
        CHECK.due(22, "stands(1)", x.stands(1), 2);
        x.minutes(1);
        CHECK.due(22, "stands(1)", x.stands(1), 1);
        CHECK.due(22, "count(7)", x.count(7), 12);
        CHECK.due(22, "ship(0, 6)", x.ship(0, 6), 4);
        x.minutes(1);
        CHECK.due(22, "ship(0, 6)", x.ship(0, 6), 8);
        CHECK.due(22, "hold(0)", x.hold(0), 10);
        CHECK.due(22, "count(13)", x.count(13), 0);
        CHECK.due(22, "layer(0, 0, 2)", x.layer(0, 0, 2), 0b110101);
    }

    private static void runsShort() {
        BlendYard x = Check.yard(YARD);
        x.toLay(0, 1, 0, 5, 2);
        x.minutes(12);
        CHECK.due(22, "tonnes(0, 0, 0)", x.tonnes(0, 0, 0), 2);
        CHECK.due(22, "tonnes(0, 0, 1), what is left", x.tonnes(0, 0, 1), 1);
        CHECK.due(22, "lot(1, 2)", x.lot(1, 2), 0);
        CHECK.due(22, "stands(0)", x.stands(0), 2);
        CHECK.due(22, "count(12)", x.count(12), 1);
        x.minutes(1);
        CHECK.due(22, "count(12), nothing is left", x.count(12), 0);
        CHECK.due(22, "layer(0, 0, 1)", x.layer(0, 0, 1), 3);
        CHECK.due(22, "stands(0)", x.stands(0), 2);
    }

    private static void nothingIsLeft() {
        BlendYard x = Check.yard(YARD);
        x.lay(0, 1, 0, 0, 3);
        x.toLay(0, 1, 0, 5, 2);
        CHECK.due(22, "minutes(1)", x.minutes(1), 0);
        CHECK.due(22, "pile(0, 1), no layer comes", x.pile(0, 1), 1);
        CHECK.due(22, "count(12)", x.count(12), 0);
        CHECK.due(22, "stands(0)", x.stands(0), 0);
    }

    private static void sixtyLayers() {
        BlendYard x = Check.yard(YARD);
        for (int i = 0; i < 59; i++) {
            x.lay(0, 0, 0, 0, 1);
        }
        x.toLay(0, 0, 0, 2, 5);
        x.toLay(0, 0, 2, 3, 5);
        x.toLay(1, 0, 2, 3, 5);
        x.minutes(3);
        CHECK.due(22, "pile(0, 1)", x.pile(0, 1), 60);
        CHECK.due(22, "layer(0, 59, 1), the layer that is there is laid on", x.layer(0, 59, 1), 15);
        CHECK.due(22, "count(12)", x.count(12), 2);
        x.minutes(1);
        CHECK.due(22, "count(12), 60 layers", x.count(12), 1);
        CHECK.due(22, "lot(0, 2)", x.lot(0, 2), 500 - 59 - 15);
        CHECK.due(22, "stands(0)", x.stands(0), 2);
        x.minutes(12);
        CHECK.due(22, "count(12)", x.count(12), 0);
        CHECK.due(22, "pile(1, 2)", x.pile(1, 2), 10);
    }

    /** Both come to one pile in the same minute: the taker stands there first. */
    private static void theTakerIsFirst() {
        BlendYard x = Check.yard(YARD);
        x.toLay(0, 0, 2, 2, 5);
        x.toCut(0, 1, 0);
        CHECK.due(22, "minutes(10), the stacker's tenth minute is no waiting", x.minutes(10), 0);
        CHECK.due(22, "stands(1)", x.stands(1), 1);
        CHECK.due(22, "stands(0)", x.stands(0), -1);
        CHECK.due(4, "count(14)", x.count(14), 0);
        CHECK.due(22, "minutes(1), the taker cuts while the stacker waits", x.minutes(1), 0);
        CHECK.due(4, "count(13)", x.count(13), 0);
        CHECK.due(4, "count(14)", x.count(14), 1);
        CHECK.due(22, "minutes(3), the taker has no order", x.minutes(3), 3);
        CHECK.due(4, "count(14)", x.count(14), 4);
        CHECK.due(4, "count(15)", x.count(15), 0);
    }

    private static void waitsForTheGoal() {
        BlendYard x = Check.yard(YARD);
        x.lay(0, 0, 0, 5, 2);
        x.toCut(0, 4, 0);
        CHECK.due(22, "minutes(10)", x.minutes(10), 0);
        CHECK.due(22, "stands(1)", x.stands(1), -1);
        CHECK.due(22, "minutes(7)", x.minutes(7), 7);
        CHECK.due(4, "count(15)", x.count(15), 7);
        CHECK.due(4, "count(14)", x.count(14), 0);
        x.park(0);
        CHECK.due(22, "minutes(1), at once", x.minutes(1), 0);
        CHECK.due(22, "stands(1)", x.stands(1), 4);
        CHECK.due(22, "count(7)", x.count(7), 10);
        x.minutes(1);
        CHECK.due(22, "ship(0, 6)", x.ship(0, 6), 2);
    }

    private static void waitsOnThePile() {
        BlendYard x = Check.yard(YARD);
        x.lay(0, 0, 0, 5, 2);
        x.lay(0, 0, 3, 3, 2);
        x.cut(0, 0, 1);
        x.toCut(0, 5, 1);
        CHECK.due(22, "minutes(1)", x.minutes(1), 0);
        CHECK.due(22, "stands(1)", x.stands(1), 1);
        CHECK.due(22, "minutes(2)", x.minutes(2), 2);
        CHECK.due(22, "stands(1)", x.stands(1), 1);
        CHECK.due(4, "count(15)", x.count(15), 2);
        x.toLay(0, 0, 4, 5, 1);
        CHECK.due(22, "minutes(1), the stacker goes on", x.minutes(1), 0);
        CHECK.due(22, "stands(0)", x.stands(0), 4);
        CHECK.due(4, "count(15)", x.count(15), 3);
        CHECK.due(22, "minutes(2)", x.minutes(2), 0);
        CHECK.due(22, "stands(1)", x.stands(1), 3);
        CHECK.due(22, "stands(0)", x.stands(0), 5);
        CHECK.due(4, "count(12)", x.count(12), 0);
        CHECK.due(22, "minutes(2)", x.minutes(2), 2);
        CHECK.due(4, "count(15)", x.count(15), 5);
    }

    /** A machine stands where it was until its way is over. */
    private static void staysWhileOnTheWay() {
        BlendYard x = Check.yard(YARD);
        x.lay(0, 0, 0, 5, 2);
        x.toLay(1, 0, 0, 0, 2);
        x.minutes(9);
        CHECK.due(22, "stands(0)", x.stands(0), 5);
        CHECK.due(22, "whyCut(0, 5, 0)", x.whyCut(0, 5, 0), 4);
        x.minutes(1);
        CHECK.due(22, "stands(0)", x.stands(0), 100);
        CHECK.due(22, "whyCut(0, 5, 0)", x.whyCut(0, 5, 0), 0);
    }

    private static void theWayIsZeroAgain() {
        BlendYard x = Check.yard(YARD);
        x.lay(0, 0, 0, 0, 2);
        x.toLay(1, 0, 0, 0, 2);
        x.minutes(9);
        x.lay(0, 0, 0, 0, 2);
        x.minutes(9);
        CHECK.due(22, "stands(0), lay() makes the way 0", x.stands(0), 0);
        x.park(0);
        x.minutes(9);
        CHECK.due(22, "stands(0), park() makes the way 0", x.stands(0), -1);
        x.drop(0);
        x.toLay(1, 0, 0, 0, 2);
        x.toLay(0, 0, 0, 0, 2);
        x.minutes(9);
        CHECK.due(22, "stands(0), drop() makes the way 0", x.stands(0), -1);
        CHECK.due(13, "lay that can't be", x.lay(0, 1, 0, 5, 99), -1);
        CHECK.due(16, "park where it is", x.park(0), false);
        x.minutes(1);
        CHECK.due(22, "stands(0), what is refused leaves the way", x.stands(0), 100);
        x.minutes(1);
        CHECK.due(22, "count(12)", x.count(12), 1);
        x.minutes(9);
        CHECK.due(22, "stands(0), from pile to pile", x.stands(0), 100);
        x.minutes(1);
        CHECK.due(22, "stands(0), from pile to pile", x.stands(0), 0);
        x.toCut(1, 0, 0);
        x.minutes(9);
        CHECK.due(15, "cut of nothing", x.cut(1, 3, 0), -1);
        x.park(0);
        x.lay(0, 0, 2, 2, 2);
        x.park(0);
        CHECK.due(15, "cut(0, 2, 1)", x.cut(0, 2, 1), 2);
        x.minutes(9);
        CHECK.due(22, "stands(1), cut() makes the way 0", x.stands(1), 2);
        x.park(1);
        x.minutes(9);
        CHECK.due(22, "stands(1), park() makes the way 0", x.stands(1), -1);
        x.minutes(1);
        CHECK.due(22, "stands(1)", x.stands(1), 100);
    }

    private static void bothWait() {
        BlendYard x = Check.yard(YARD);
        x.lay(0, 0, 0, 5, 2);
        x.lay(0, 0, 4, 4, 2);
        x.cut(0, 1, 1);
        x.toCut(0, 5, 1);
        x.toLay(0, 0, 0, 1, 3);
        CHECK.due(22, "minutes(1), the taker goes, the stacker waits", x.minutes(1), 0);
        CHECK.due(22, "stands(1)", x.stands(1), 2);
        CHECK.due(4, "count(14)", x.count(14), 1);
        CHECK.due(4, "count(15)", x.count(15), 0);
        CHECK.due(22, "minutes(20)", x.minutes(20), 20);
        CHECK.due(4, "count(14)", x.count(14), 21);
        CHECK.due(4, "count(15)", x.count(15), 20);
        CHECK.due(23, "ends(), they are stuck", x.ends(), -2);
        x.park(0);
        CHECK.due(22, "minutes(1), one is on its way", x.minutes(1), 0);
        CHECK.due(22, "stands(1)", x.stands(1), 3);
        CHECK.due(4, "count(14)", x.count(14), 21);
    }

    private static void shipsThatTakeNoMore() {
        BlendYard x = Check.yard(YARD);
        x.lay(0, 0, 0, 5, 5);
        x.park(0);
        x.toCut(0, 0, 0);
        x.toCut(0, 1, 0);
        x.toCut(0, 2, 0);
        x.minutes(15);
        CHECK.due(22, "stands(1)", x.stands(1), 2);
        CHECK.due(22, "count(13), not full ahead of the third", x.count(13), 0);
        CHECK.due(22, "ship(0, 6), full", x.ship(0, 6), 10);
        CHECK.due(22, "layer(0, 0, 2)", x.layer(0, 0, 2), 0b111100);
        x.sail(0);
        x.toCut(0, 2, 0);
        x.minutes(1);
        CHECK.due(22, "count(13), it sailed", x.count(13), 0);
        CHECK.due(22, "layer(0, 0, 2)", x.layer(0, 0, 2), 0b111100);
        x.toCut(0, 1, 1);
        x.minutes(2);
        CHECK.due(22, "count(13), nothing lies there", x.count(13), 0);
        CHECK.due(22, "ship(1, 6)", x.ship(1, 6), 0);
    }

    /** An order that was begun goes on with its next cell, wherever the stacker was taken meanwhile. */
    private static void theGoalNext() {
        BlendYard x = Check.yard(YARD);
        x.toLay(0, 0, 0, 5, 3);
        x.minutes(12);
        CHECK.due(22, "layer(0, 0, 2)", x.layer(0, 0, 2), 3);
        x.park(0);
        CHECK.due(15, "cut(0, 1, 1)", x.cut(0, 1, 1), 3);
        x.minutes(10);
        CHECK.due(22, "stands(0), the goal is not free", x.stands(0), -1);
        x.park(1);
        x.minutes(1);
        CHECK.due(22, "stands(0), the goal", x.stands(0), 2);
        x.minutes(4);
        CHECK.due(22, "layer(0, 0, 2)", x.layer(0, 0, 2), 0b111101);
        CHECK.due(22, "pile(0, 1)", x.pile(0, 1), 1);
        CHECK.due(22, "count(12)", x.count(12), 0);
        x.toLay(0, 0, 4, 3, 3);
        x.minutes(2);
        CHECK.due(22, "tonnes(0, 1, 4)", x.tonnes(0, 1, 4), 3);
        x.drop(0);
        x.toLay(0, 0, 3, 3, 3);
        x.minutes(1);
        CHECK.due(22, "layer(0, 2, 2), an order lays a layer of its own", x.layer(0, 2, 2), 8);
    }

    /** Eight orders of each machine, all unlike. */
    private static void sixteenOrders() {
        BlendYard x = Check.yard("lot a tonnes 999 grade 10;lot b tonnes 999 grade 20;pile p cells 8;pile q cells 8;"
            + "ship s needs 999 low 0 high 999 due 5 load 1;ship t needs 999 low 0 high 999 due 5 load 1;gap 0;");
        x.lay(1, 0, 0, 7, 1);
        x.lay(1, 1, 0, 7, 2);
        x.lay(1, 0, 0, 7, 4);
        for (int i = 0; i < 8; i++) {
            CHECK.due(19, "toLay", x.toLay(0, i % 2, i, 7 - i, 1 + i), i + 1);
            CHECK.due(20, "toCut", x.toCut(1, 7 - i, i % 3 == 0 ? 0 : 1), i + 1);
        }
        x.minutes(200);
        CHECK.due(4, "count(12)", x.count(12), 0);
        CHECK.due(4, "count(13)", x.count(13), 0);
        int[] cells = {8, 6, 4, 2, 2, 4, 6, 8};
        int[] bits = {0b11111111, 0b01111110, 0b00111100, 0b00011000, 0b00011000, 0b00111100, 0b01111110, 0b11111111};
        for (int i = 0; i < 8; i++) {
            CHECK.due(22, "layer(0, " + i + ", 0)", x.layer(0, i, 0), i % 2);
            CHECK.due(22, "layer(0, " + i + ", 1)", x.layer(0, i, 1), cells[i] * (1 + i));
            CHECK.due(22, "layer(0, " + i + ", 2)", x.layer(0, i, 2), bits[i]);
        }
        CHECK.due(22, "ship(0, 6)", x.ship(0, 6), 21);
        CHECK.due(22, "ship(1, 6)", x.ship(1, 6), 35);
        CHECK.due(22, "stands(0)", x.stands(0), 0);
        CHECK.due(22, "stands(1)", x.stands(1), 100);
        // 45 by the layers ahead of the orders, then to pile 0, and eight times to the first cell and on to the last one.
        CHECK.due(22, "count(6)", x.count(6), 45 + 10 + (0 + 7) + (6 + 5) + (4 + 3) + (2 + 1) + (0 + 1) + (2 + 3) + (4 + 5) + (6 + 7));
        CHECK.due(22, "count(7)", x.count(7), 10 + 7);
    }

    private static void ends() {
        BlendYard x = Check.yard(YARD);
        CHECK.due(23, "ends(), none", x.ends(), 0);
        x.toLay(0, 0, 0, 5, 3);
        CHECK.due(23, "ends()", x.ends(), 16);
        x.toCut(1, 0, 0);
        x.toCut(0, 4, 0);
        CHECK.due(23, "ends(), the stacker will stand in the way", x.ends(), -2);
        CHECK.due(23, "count(16), in thought", x.count(16), 0);
        CHECK.due(23, "count(12), in thought", x.count(12), 1);
        CHECK.due(23, "lot(0, 2), in thought", x.lot(0, 2), 500);
        CHECK.due(23, "stands(0), in thought", x.stands(0), -1);
        CHECK.due(23, "count(8), in thought", x.count(8), 3);
        x.minutes(16);
        CHECK.due(23, "count(12)", x.count(12), 0);
        CHECK.due(23, "ends(), the stacker stands in the way", x.ends(), -2);
        x.park(0);
        CHECK.due(23, "ends()", x.ends(), 6);
        x.minutes(5);
        CHECK.due(23, "ends()", x.ends(), 1);
        x.minutes(1);
        CHECK.due(23, "ends()", x.ends(), 0);
        BlendYard both = Check.yard("lot a tonnes 9999 grade 1;pile p cells 12;pile q cells 12;"
            + "ship s needs 999 low 0 high 9 due 5 load 1;");
        for (int i = 0; i < 4; i++) {
            both.toLay(0, 0, 0, 11, 9);
            both.toLay(1, 0, 0, 11, 9);
        }
        CHECK.due(23, "ends(), 8 orders", both.ends(), 8 * 22);
    }
}
