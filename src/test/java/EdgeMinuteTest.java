/** Promises 19 to 23 and the fourth of the terms: each sentence that names an edge of ORDERS and MINUTES. */
public final class EdgeMinuteTest {
    private static final Check CHECK = new Check("EdgeMinuteTest");
    private static final int MIN = Integer.MIN_VALUE;
    private static final int MAX = Integer.MAX_VALUE;
    private static final int[] WRONG = {-1, MIN, MAX, 1 << 30};

    public static void main(String[] args) {
        noSuchToLay();
        noSuchToCut();
        eightAtMost();
        drops();
        numberOfMinutes();
        nothingToDo();
        tenMinutes();
        notFreeAtTen();
        theWayIsZeroAgain();
        whatMakesTheWayZero();
        oneCellNearer();
        freeByGap();
        theTakerFirst();
        cutsForTheShip();
        cutsNothing();
        whatIsLeft();
        nothingIsLeft();
        sixtyLayersAsItComes();
        sixtyLayersWhileItGoesOn();
        onTopWithItsFirstCell();
        behindTheLastCell();
        theNextCellIfFree();
        minutesThatBothWaited();
        ends();
        endsInThought();
        CHECK.end();
    }

    /** PILES of 8, 8 and 3 CELLS, LOTS of 900 and 7 tonnes, SHIPS that need 10 and 999. */
    private static BlendYard yard(int gap) {
        return Check.yard("lot a tonnes 900 grade 10;lot b tonnes 7 grade 20;pile p cells 8;pile q cells 8;pile r cells 3;"
            + "ship s needs 10 low 0 high 999 due 5 load 1;ship t needs 999 low 0 high 999 due 5 load 1;gap " + gap + ";");
    }

    private static void noSuchToLay() {
        CHECK.says(19, "NONE: none such (as 1 of WHY NOT)");
        BlendYard x = yard(1);
        for (int w : WRONG) {
            CHECK.due("pile " + w, x.toLay(w, 0, 0, 0, 1), -1);
            CHECK.due("lot " + w, x.toLay(0, w, 0, 0, 1), -1);
            CHECK.due("from " + w, x.toLay(0, 0, w, 0, 1), -1);
            CHECK.due("to " + w, x.toLay(0, 0, 0, w, 1), -1);
            CHECK.due("t " + w, x.toLay(0, 0, 0, 0, w), -1);
        }
        CHECK.due("pile 3", x.toLay(3, 0, 0, 0, 1), -1);
        CHECK.due("lot 2", x.toLay(0, 2, 0, 0, 1), -1);
        CHECK.due("from 8 of 8", x.toLay(0, 0, 8, 0, 1), -1);
        CHECK.due("to 8 of 8", x.toLay(0, 0, 0, 8, 1), -1);
        CHECK.due("from 3 of 3", x.toLay(2, 0, 3, 0, 1), -1);
        CHECK.due("to 3 of 3", x.toLay(2, 0, 0, 3, 1), -1);
        CHECK.due("t 0", x.toLay(0, 0, 0, 0, 0), -1);
        CHECK.due("t 100", x.toLay(0, 0, 0, 0, 100), -1);
        CHECK.due("count(8)", x.count(8), 0);
        CHECK.due("count(12)", x.count(12), 0);
        CHECK.says(19, "how many it has; 2 to 5 of WHY NOT are no matter");
        CHECK.due("t 1, the last of all", x.toLay(2, 1, 2, 2, 1), 1);
        CHECK.due("t 99, more than is left", x.toLay(0, 1, 0, 7, 99), 2);
        x.lay(0, 0, 0, 7, 1);
        x.park(0);
        x.cut(0, 3, 1);
        CHECK.due("not APART", x.toLay(0, 0, 3, 3, 1), 3);
        for (int i = 0; i < 60; i++) {
            x.lay(1, 0, 0, 0, 1);
        }
        CHECK.due("60 LAYERS", x.toLay(1, 0, 0, 0, 1), 4);
    }

    private static void noSuchToCut() {
        CHECK.says(20, "NONE likewise");
        BlendYard x = yard(1);
        for (int w : WRONG) {
            CHECK.due("pile " + w, x.toCut(w, 0, 0), -1);
            CHECK.due("cell " + w, x.toCut(0, w, 0), -1);
            CHECK.due("ship " + w, x.toCut(0, 0, w), -1);
        }
        CHECK.due("pile 3", x.toCut(3, 0, 0), -1);
        CHECK.due("cell 8 of 8", x.toCut(0, 8, 0), -1);
        CHECK.due("cell 3 of 3", x.toCut(2, 3, 0), -1);
        CHECK.due("ship 2", x.toCut(0, 0, 2), -1);
        CHECK.due("count(8)", x.count(8), 0);
        CHECK.due("count(13)", x.count(13), 0);
        CHECK.says(20, "how many it has; 2 to 5 of WHY NOT are no matter");
        CHECK.due("nothing lies there, the last of all", x.toCut(2, 2, 1), 1);
        x.lay(0, 0, 0, 0, 10);
        x.park(0);
        x.cut(0, 0, 0);
        CHECK.due("the SHIP is FULL", x.toCut(0, 0, 0), 2);
        x.sail(0);
        CHECK.due("the SHIP sailed", x.toCut(0, 0, 0), 3);
        x.lay(0, 0, 3, 3, 1);
        CHECK.due("not APART", x.toCut(0, 3, 1), 4);
    }

    private static void eightAtMost() {
        CHECK.says(19, "8 at most, none at first; NONE: 8 are there (of the STACKER)");
        BlendYard x = yard(1);
        CHECK.due("count(12)", x.count(12), 0);
        for (int n = 1; n <= 8; n++) {
            CHECK.due("toLay", x.toLay(0, 0, 0, 0, 1), n);
            CHECK.due("count(12)", x.count(12), n);
        }
        CHECK.due("toLay, 8 are there", x.toLay(0, 0, 0, 0, 1), -1);
        CHECK.due("count(12)", x.count(12), 8);
        CHECK.due("count(8)", x.count(8), 8);
        CHECK.says(20, "8 at most, none at first; NONE: 8 are there (of the TAKER)");
        CHECK.due("count(13)", x.count(13), 0);
        for (int n = 1; n <= 8; n++) {
            CHECK.due("toCut", x.toCut(0, 7, 0), n);
            CHECK.due("count(13)", x.count(13), n);
        }
        CHECK.due("toCut, 8 are there", x.toCut(0, 7, 0), -1);
        CHECK.due("count(13)", x.count(13), 8);
        CHECK.says(19, "8 at most: one that is done makes room");
        x.minutes(11);
        CHECK.due("toLay", x.toLay(0, 0, 0, 0, 1), 8);
        CHECK.due("toCut", x.toCut(0, 7, 0), 8);
        CHECK.due("toLay, 8 are there", x.toLay(0, 0, 0, 0, 1), -1);
        CHECK.due("toCut, 8 are there", x.toCut(0, 7, 0), -1);
        CHECK.says(19, "8 at most: dropped ones make room");
        CHECK.due("drop(0)", x.drop(0), 8);
        CHECK.due("toLay", x.toLay(0, 0, 0, 0, 1), 1);
        CHECK.due("drop(1)", x.drop(1), 8);
        CHECK.due("toCut", x.toCut(0, 7, 0), 1);
    }

    private static void drops() {
        CHECK.says(21, "NONE: another machine, none");
        BlendYard x = yard(1);
        CHECK.due("drop(0), none", x.drop(0), -1);
        CHECK.due("drop(1), none", x.drop(1), -1);
        x.toLay(0, 0, 0, 0, 1);
        x.toCut(0, 0, 0);
        x.toCut(0, 1, 0);
        for (int machine : new int[] {-1, 2, MIN, MAX}) {
            CHECK.due("drop(" + machine + ")", x.drop(machine), -1);
        }
        CHECK.due("count(8)", x.count(8), 3);
        CHECK.says(21, "ORDERS of a machine are gone: how many were there");
        CHECK.due("drop(1)", x.drop(1), 2);
        CHECK.due("count(13)", x.count(13), 0);
        CHECK.due("count(12), of the other one", x.count(12), 1);
        CHECK.due("drop(1) again", x.drop(1), -1);
        CHECK.due("drop(0)", x.drop(0), 1);
        CHECK.due("drop(0) again", x.drop(0), -1);
    }

    private static void numberOfMinutes() {
        CHECK.says(22, "MINUTES go by (1 to 200); NONE: another n");
        BlendYard x = yard(1);
        for (int n : new int[] {0, -1, -200, 201, 202, MIN, MAX}) {
            CHECK.due("minutes(" + n + ")", x.minutes(n), -1);
        }
        CHECK.due("count(16)", x.count(16), 0);
        CHECK.due("count(8)", x.count(8), 0);
        int passed = 0;
        for (int n : new int[] {1, 2, 199, 200}) {
            CHECK.due("minutes(" + n + ")", x.minutes(n), 0);
            passed += n;
            CHECK.due("count(16)", x.count(16), passed);
        }
        CHECK.says(22, "200 MINUTES of waiting");
        x.lay(0, 0, 0, 0, 1);
        x.toCut(0, 0, 0);
        x.minutes(10);
        CHECK.due("minutes(200)", x.minutes(200), 200);
        CHECK.due("count(15)", x.count(15), 200);
    }

    private static void nothingToDo() {
        CHECK.says(22, "does one thing by the first of its ORDERS, if there is one");
        BlendYard x = yard(1);
        x.lay(0, 0, 0, 7, 1);
        x.cut(0, 0, 1);
        CHECK.due("minutes(5), no ORDERS", x.minutes(5), 0);
        CHECK.due("stands(0)", x.stands(0), 7);
        CHECK.due("stands(1)", x.stands(1), 0);
        CHECK.due("count(14)", x.count(14), 0);
        CHECK.due("count(15)", x.count(15), 0);
        CHECK.due("pile(0, 2)", x.pile(0, 2), 7);
        CHECK.says(22, "one thing by the first of its ORDERS: the others stay behind it");
        x.toLay(0, 0, 7, 7, 1);
        x.toLay(0, 0, 6, 6, 2);
        x.toCut(0, 1, 1);
        x.toCut(0, 0, 1);
        x.minutes(1);
        CHECK.due("count(12)", x.count(12), 1);
        CHECK.due("count(13)", x.count(13), 2);
        CHECK.due("stands(0)", x.stands(0), 7);
        CHECK.due("stands(1)", x.stands(1), 1);
        x.minutes(1);
        CHECK.due("stands(0)", x.stands(0), 6);
        CHECK.due("pile(0, 1)", x.pile(0, 1), 2);
        CHECK.due("ship(1, 6)", x.ship(1, 6), 2);
        CHECK.due("count(13)", x.count(13), 1);
    }

    private static void tenMinutes() {
        CHECK.says(22, "on its WAY one MINUTE more (10 at most); if these are 10 and the GOAL is FREE, it stands there (10 STEPS)");
        BlendYard x = yard(1);
        x.lay(1, 0, 0, 7, 3);
        x.park(0);
        x.toLay(0, 0, 5, 6, 1);
        x.toCut(1, 4, 0);
        for (int n = 1; n <= 9; n++) {
            x.minutes(1);
            CHECK.due("stands(0) behind " + n, x.stands(0), -1);
            CHECK.due("stands(1) behind " + n, x.stands(1), -1);
            CHECK.due("count(7) behind " + n, x.count(7), 0);
        }
        CHECK.due("count(6) behind 9", x.count(6), 17);
        x.minutes(1);
        CHECK.due("stands(0) behind 10", x.stands(0), 5);
        CHECK.due("stands(1) behind 10", x.stands(1), 104);
        CHECK.due("count(6) behind 10", x.count(6), 27);
        CHECK.due("count(7) behind 10", x.count(7), 10);
        CHECK.due("pile(0, 1), nothing is laid in that MINUTE", x.pile(0, 1), 0);
        CHECK.due("ship(0, 6), nothing is cut in that MINUTE", x.ship(0, 6), 0);
        x.minutes(1);
        CHECK.due("pile(0, 1) behind 11", x.pile(0, 1), 1);
        CHECK.due("ship(0, 6) behind 11", x.ship(0, 6), 3);
        CHECK.says(22, "it doesn't stand on the ORDER's PILE: on another one, where it stands meanwhile");
        x.drop(0);
        x.toLay(2, 0, 0, 0, 1);
        x.toCut(0, 0, 0);
        x.minutes(9);
        CHECK.due("stands(0) behind 9", x.stands(0), 6);
        CHECK.due("stands(1) behind 9", x.stands(1), 104);
        x.minutes(1);
        CHECK.due("stands(0) behind 10", x.stands(0), 200);
        CHECK.due("stands(1) behind 10", x.stands(1), 0);
        CHECK.due("count(14)", x.count(14), 0);
        CHECK.due("count(15)", x.count(15), 0);
    }

    private static void notFreeAtTen() {
        CHECK.says(22, "if they were 10 already and it is not FREE, it WAITS: not in the tenth MINUTE, from the next one on");
        BlendYard x = yard(1);
        x.lay(0, 0, 0, 7, 1);
        x.toCut(0, 6, 1);
        CHECK.due("minutes(10)", x.minutes(10), 0);
        CHECK.due("count(15)", x.count(15), 0);
        CHECK.due("stands(1)", x.stands(1), -1);
        CHECK.due("minutes(1)", x.minutes(1), 1);
        CHECK.due("count(15)", x.count(15), 1);
        CHECK.due("minutes(3)", x.minutes(3), 3);
        CHECK.due("count(15)", x.count(15), 4);
        CHECK.says(22, "10 at most: once FREE, it stands there in the next MINUTE");
        x.lay(0, 0, 4, 4, 1);
        CHECK.due("minutes(1)", x.minutes(1), 0);
        CHECK.due("stands(1)", x.stands(1), 6);
        CHECK.due("count(7)", x.count(7), 10);
        CHECK.due("count(15)", x.count(15), 4);
        CHECK.says(22, "the STACKER likewise");
        BlendYard y = yard(0);
        y.lay(0, 0, 0, 7, 1);
        y.park(0);
        y.cut(0, 3, 1);
        y.toLay(0, 0, 3, 3, 1);
        CHECK.due("minutes(10)", y.minutes(10), 0);
        CHECK.due("count(14)", y.count(14), 0);
        CHECK.due("minutes(2)", y.minutes(2), 2);
        CHECK.due("count(14)", y.count(14), 2);
        CHECK.due("stands(0)", y.stands(0), -1);
        y.park(1);
        CHECK.due("minutes(1)", y.minutes(1), 0);
        CHECK.due("stands(0)", y.stands(0), 3);
        CHECK.due("count(14)", y.count(14), 2);
    }

    private static void theWayIsZeroAgain() {
        CHECK.says(22, "it stands there (its WAY is 0 again): the next one takes 10 MINUTES too");
        BlendYard x = yard(0);
        x.toLay(0, 0, 0, 0, 1);
        x.toLay(1, 0, 0, 0, 1);
        x.toLay(0, 0, 7, 7, 1);
        x.minutes(11 + 9);
        CHECK.due("stands(0)", x.stands(0), 0);
        x.minutes(1);
        CHECK.due("stands(0)", x.stands(0), 100);
        x.minutes(1 + 9);
        CHECK.due("stands(0)", x.stands(0), 100);
        x.minutes(1);
        CHECK.due("stands(0)", x.stands(0), 7);
        CHECK.says(22, "its WAY is 0 again, also from a GOAL that was not FREE for long");
        BlendYard y = yard(0);
        y.lay(0, 0, 0, 0, 1);
        y.lay(1, 0, 0, 0, 1);
        y.lay(0, 0, 0, 0, 1);
        y.toCut(0, 0, 1);
        y.toCut(1, 0, 1);
        y.minutes(20);
        y.park(0);
        y.minutes(1);
        CHECK.due("stands(1)", y.stands(1), 0);
        y.minutes(1 + 9);
        CHECK.due("stands(1)", y.stands(1), 0);
        y.minutes(1);
        CHECK.due("stands(1)", y.stands(1), 100);
    }

    /** Behind nine MINUTES on its WAY something is done: it stands there with the next MINUTE, or not. */
    private static BlendYard onTheWay() {
        BlendYard x = yard(0);
        x.lay(0, 0, 0, 7, 1);
        x.lay(1, 0, 0, 7, 1);
        x.cut(0, 0, 1);
        x.toLay(2, 0, 1, 1, 1);
        x.toCut(2, 2, 1);
        x.minutes(9);
        return x;
    }

    private static void arrive(String what, BlendYard x, int stacker, int taker) {
        x.minutes(1);
        CHECK.due(what + ": stands(0)", x.stands(0), stacker);
        CHECK.due(what + ": stands(1)", x.stands(1), taker);
    }

    private static void whatMakesTheWayZero() {
        CHECK.says(22, "lay(), cut(), park(), drop() make the WAY of that machine 0");
        arrive("nothing done", onTheWay(), 201, 202);
        BlendYard x = onTheWay();
        CHECK.due("lay", x.lay(1, 0, 7, 7, 1), 0);
        arrive("lay()", x, 107, 202);
        x = onTheWay();
        CHECK.due("cut", x.cut(0, 1, 1), 1);
        arrive("cut()", x, 201, 1);
        x = onTheWay();
        x.park(0);
        arrive("park(0)", x, -1, 202);
        x = onTheWay();
        x.park(1);
        arrive("park(1)", x, 201, -1);
        x = onTheWay();
        x.drop(0);
        x.toLay(2, 0, 1, 1, 1);
        arrive("drop(0)", x, 107, 202);
        x = onTheWay();
        x.drop(1);
        x.toCut(2, 2, 1);
        arrive("drop(1)", x, 201, 0);
        x = onTheWay();
        x.lay(1, 0, 7, 7, 1);
        x.minutes(9);
        arrive("lay(), ten MINUTES behind it", x, 201, 202);
        CHECK.says(22, "lay(), cut(), park(), drop() that can't be do nothing");
        x = onTheWay();
        CHECK.due("lay", x.lay(1, 1, 0, 7, 1), -1);
        CHECK.due("cut", x.cut(0, 0, 1), -1);
        CHECK.due("park", x.park(2), false);
        CHECK.due("drop", x.drop(2), -1);
        arrive("nothing happened", x, 201, 202);
        BlendYard y = yard(0);
        y.toLay(2, 0, 1, 1, 1);
        y.minutes(9);
        CHECK.due("park(0), it is there", y.park(0), false);
        arrive("park(0), it is there", y, 201, -1);
        CHECK.says(22, "days(), sail(), toLay(), toCut(), ends(), a look leave the WAY");
        x = onTheWay();
        x.days(1);
        x.toLay(0, 0, 0, 0, 1);
        x.toCut(0, 0, 0);
        x.ends();
        x.image(0, false);
        x.way(0, 0, 0);
        arrive("nothing that makes it 0", x, 201, 202);
    }

    private static void oneCellNearer() {
        CHECK.says(22, "it stands on that PILE, not on the GOAL: it goes one CELL nearer (a STEP)");
        BlendYard x = yard(0);
        x.lay(0, 0, 0, 7, 1);
        x.lay(0, 0, 0, 0, 1);
        x.toLay(0, 0, 3, 3, 1);
        for (int cell = 1; cell <= 3; cell++) {
            CHECK.due("minutes(1)", x.minutes(1), 0);
            CHECK.due("stands(0)", x.stands(0), cell);
        }
        CHECK.due("count(6)", x.count(6), 17 + 7 + 3);
        CHECK.due("pile(0, 1), nothing is laid while it goes", x.pile(0, 1), 2);
        x.minutes(1);
        CHECK.due("pile(0, 1)", x.pile(0, 1), 3);
        x.toLay(0, 0, 1, 1, 1);
        x.minutes(2);
        CHECK.due("stands(0), downwards", x.stands(0), 1);
        x.minutes(1);
        x.cut(0, 7, 1);
        x.toCut(0, 4, 1);
        x.minutes(3);
        CHECK.due("stands(1), downwards", x.stands(1), 4);
        CHECK.due("count(7)", x.count(7), 13);
        CHECK.due("ship(1, 6)", x.ship(1, 6), 1);
        x.minutes(1);
        CHECK.due("ship(1, 6)", x.ship(1, 6), 2);
        x.toCut(0, 5, 1);
        x.minutes(1);
        CHECK.due("stands(1), upwards", x.stands(1), 5);
        CHECK.says(22, "if that is FREE; else it WAITS");
        BlendYard y = yard(1);
        y.lay(0, 0, 0, 7, 1);
        y.lay(0, 0, 4, 4, 1);
        y.cut(0, 0, 1);
        y.toCut(0, 7, 1);
        CHECK.due("minutes(2)", y.minutes(2), 0);
        CHECK.due("stands(1)", y.stands(1), 2);
        CHECK.due("minutes(3)", y.minutes(3), 3);
        CHECK.due("stands(1)", y.stands(1), 2);
        CHECK.due("count(15)", y.count(15), 3);
        y.drop(1);
        y.toLay(0, 0, 0, 0, 1);
        CHECK.due("minutes(4)", y.minutes(4), 4);
        CHECK.due("stands(0)", y.stands(0), 4);
        CHECK.due("count(14)", y.count(14), 4);
    }

    private static void freeByGap() {
        CHECK.says(22, "FREE for a machine, if the other one doesn't stand on that PILE gap or fewer CELLS from it");
        for (int gap = 0; gap <= 3; gap++) {
            for (int goal = 0; goal < 8; goal++) {
                boolean free = Math.abs(goal - 3) > gap;
                BlendYard x = yard(gap);
                x.lay(0, 0, 0, 7, 1);
                x.lay(0, 0, 3, 3, 1);
                x.toCut(0, goal, 1);
                x.minutes(11);
                CHECK.due("stands(1), STACKER at 3, gap " + gap, x.stands(1), free ? goal : -1);
                CHECK.due("count(15)", x.count(15), free ? 0 : 1);
                BlendYard y = yard(gap);
                y.lay(0, 0, 0, 7, 1);
                y.park(0);
                y.cut(0, 3, 1);
                y.toLay(0, 0, goal, goal, 1);
                y.minutes(11);
                CHECK.due("stands(0), TAKER at 3, gap " + gap, y.stands(0), free ? goal : -1);
                CHECK.due("count(14)", y.count(14), free ? 0 : 1);
                // On another PILE it is in nobody's way.
                BlendYard z = yard(gap);
                z.lay(1, 0, goal, goal, 1);
                z.toCut(0, goal, 1);
                z.minutes(10);
                CHECK.due("stands(1), STACKER on another PILE", z.stands(1), goal);
            }
            BlendYard x = yard(gap);
            x.lay(0, 0, 0, 7, 1);
            x.cut(0, 0, 1);
            x.toCut(0, 7, 1);
            x.minutes(20);
            CHECK.due("stands(1), as near as can be, gap " + gap, x.stands(1), 6 - gap);
            BlendYard y = yard(gap);
            y.lay(0, 0, 0, 7, 1);
            y.cut(0, 0, 1);
            y.toLay(0, 0, 0, 0, 1);
            y.minutes(20);
            CHECK.due("stands(0), as near as can be, gap " + gap, y.stands(0), 1 + gap);
        }
        CHECK.says(22, "FREE: those between are of no matter on the WAY from elsewhere");
        BlendYard x = yard(1);
        x.lay(0, 0, 0, 7, 1);
        x.lay(0, 0, 3, 3, 1);
        x.toCut(0, 7, 1);
        x.minutes(10);
        CHECK.due("stands(1)", x.stands(1), 7);
    }

    private static void theTakerFirst() {
        CHECK.says(22, "the TAKER, then the STACKER");
        BlendYard x = yard(1);
        x.toLay(0, 0, 3, 3, 1);
        x.toCut(0, 3, 1);
        CHECK.due("minutes(10)", x.minutes(10), 0);
        CHECK.due("stands(1), there first", x.stands(1), 3);
        CHECK.due("stands(0)", x.stands(0), -1);
        // The TAKER goes off ahead of the STACKER, which finds the CELL free in the same MINUTE.
        BlendYard y = yard(0);
        y.lay(0, 0, 0, 7, 1);
        y.lay(0, 0, 5, 5, 1);
        y.cut(0, 4, 1);
        y.toLay(0, 0, 4, 4, 1);
        y.toCut(0, 3, 1);
        CHECK.due("minutes(1)", y.minutes(1), 0);
        CHECK.due("stands(1)", y.stands(1), 3);
        CHECK.due("stands(0)", y.stands(0), 4);
        CHECK.due("count(14)", y.count(14), 0);
        // The STACKER would go off, but comes behind the TAKER, which WAITS.
        BlendYard z = yard(0);
        z.lay(0, 0, 0, 7, 1);
        z.lay(0, 0, 5, 5, 1);
        z.cut(0, 4, 1);
        z.toLay(0, 0, 6, 6, 1);
        z.toCut(0, 5, 1);
        CHECK.due("minutes(1)", z.minutes(1), 0);
        CHECK.due("stands(1)", z.stands(1), 4);
        CHECK.due("stands(0)", z.stands(0), 6);
        CHECK.due("count(15)", z.count(15), 1);
        // What the TAKER cuts is what lay there ahead of the STACKER's laying.
        BlendYard w = yard(0);
        w.lay(0, 0, 4, 5, 1);
        w.cut(0, 4, 1);
        w.toLay(0, 0, 5, 5, 6);
        w.toCut(0, 4, 1);
        w.minutes(1);
        CHECK.due("ship(1, 6)", w.ship(1, 6), 1);
        CHECK.due("tonnes(0, 1, 5)", w.tonnes(0, 1, 5), 6);
    }

    private static void cutsForTheShip() {
        CHECK.says(22, "to cut: all that lies there comes into the SHIP's hold, if it did not sail and is not FULL");
        BlendYard x = yard(0);
        x.lay(0, 0, 0, 7, 3);
        x.lay(0, 1, 2, 2, 6);
        x.park(0);
        for (int cell = 0; cell < 4; cell++) {
            x.toCut(0, cell, 0);
        }
        x.minutes(11);
        CHECK.due("ship(0, 6)", x.ship(0, 6), 3);
        x.minutes(2);
        CHECK.due("ship(0, 6)", x.ship(0, 6), 6);
        x.minutes(2);
        CHECK.due("ship(0, 6), beyond what it needs", x.ship(0, 6), 15);
        CHECK.due("hold(0)", x.hold(0), 14);
        CHECK.due("count(13)", x.count(13), 1);
        CHECK.says(22, "if it is FULL, nothing comes, the ORDER is done");
        x.minutes(2);
        CHECK.due("ship(0, 6)", x.ship(0, 6), 15);
        CHECK.due("tonnes(0, 0, 3)", x.tonnes(0, 0, 3), 3);
        CHECK.due("count(13)", x.count(13), 0);
        CHECK.due("stands(1)", x.stands(1), 3);
        CHECK.says(22, "if it sailed, nothing comes, the ORDER is done");
        x.sail(0);
        x.toCut(0, 3, 0);
        CHECK.due("minutes(1)", x.minutes(1), 0);
        CHECK.due("ship(0, 6)", x.ship(0, 6), 15);
        CHECK.due("tonnes(0, 0, 3)", x.tonnes(0, 0, 3), 3);
        CHECK.due("count(13)", x.count(13), 0);
        CHECK.due("count(15), that is no waiting", x.count(15), 0);
        CHECK.says(22, "not FULL: a tonne less than it needs");
        BlendYard y = yard(0);
        y.lay(0, 0, 0, 0, 9);
        y.lay(0, 0, 1, 2, 1);
        y.park(0);
        y.cut(0, 0, 0);
        y.toCut(0, 1, 0);
        y.toCut(0, 2, 0);
        y.minutes(2);
        CHECK.due("ship(0, 6)", y.ship(0, 6), 10);
        y.minutes(2);
        CHECK.due("ship(0, 6), just FULL", y.ship(0, 6), 10);
        CHECK.due("tonnes(0, 1, 2)", y.tonnes(0, 1, 2), 1);
    }

    private static void cutsNothing() {
        CHECK.says(22, "to cut: nothing lies there, the ORDER is done");
        BlendYard x = yard(0);
        x.toCut(0, 0, 0);
        x.minutes(10);
        CHECK.due("count(13)", x.count(13), 1);
        CHECK.due("minutes(1)", x.minutes(1), 0);
        CHECK.due("count(13)", x.count(13), 0);
        CHECK.due("ship(0, 6)", x.ship(0, 6), 0);
        CHECK.due("hold(0)", x.hold(0), -2);
        CHECK.due("count(15)", x.count(15), 0);
    }

    private static void whatIsLeft() {
        CHECK.says(22, "to lay: t tonnes, or what is left of the LOT, if that is less");
        BlendYard x = yard(0);
        x.toLay(0, 1, 0, 2, 3);
        x.minutes(13);
        for (int cell = 0; cell < 3; cell++) {
            CHECK.due("tonnes(0, 0, " + cell + ")", x.tonnes(0, 0, cell), cell < 2 ? 3 : 1);
        }
        CHECK.due("lot(1, 2)", x.lot(1, 2), 0);
        CHECK.due("count(12)", x.count(12), 0);
        BlendYard y = yard(0);
        y.toLay(0, 1, 0, 0, 7);
        y.minutes(11);
        CHECK.due("tonnes(0, 0, 0), just what is left", y.tonnes(0, 0, 0), 7);
        BlendYard z = yard(0);
        z.toLay(0, 1, 0, 0, 8);
        z.minutes(11);
        CHECK.due("tonnes(0, 0, 0), a tonne less", z.tonnes(0, 0, 0), 7);
        CHECK.due("lot(1, 2)", z.lot(1, 2), 0);
        BlendYard w = yard(0);
        w.toLay(0, 1, 0, 0, 6);
        w.minutes(11);
        CHECK.due("tonnes(0, 0, 0), a tonne stays", w.tonnes(0, 0, 0), 6);
        CHECK.due("lot(1, 2)", w.lot(1, 2), 1);
    }

    private static void nothingIsLeft() {
        CHECK.says(22, "with nothing left, nothing is laid, the ORDER is done (ahead of its first CELL)");
        BlendYard x = yard(0);
        x.lay(0, 1, 4, 4, 7);
        x.toLay(0, 1, 4, 7, 1);
        CHECK.due("minutes(1)", x.minutes(1), 0);
        CHECK.due("count(12)", x.count(12), 0);
        CHECK.due("pile(0, 1), no LAYER comes", x.pile(0, 1), 1);
        CHECK.due("stands(0)", x.stands(0), 4);
        CHECK.due("count(14)", x.count(14), 0);
        CHECK.says(22, "with nothing left, nothing is laid, the ORDER is done (on its next CELL)");
        BlendYard y = yard(0);
        y.lay(0, 0, 0, 0, 1);
        y.toLay(0, 1, 0, 7, 7);
        y.toLay(0, 0, 1, 1, 2);
        CHECK.due("minutes(1)", y.minutes(1), 0);
        CHECK.due("count(12)", y.count(12), 2);
        CHECK.due("stands(0), the next CELL", y.stands(0), 1);
        CHECK.due("minutes(1)", y.minutes(1), 0);
        CHECK.due("count(12)", y.count(12), 1);
        CHECK.due("layer(0, 1, 2)", y.layer(0, 1, 2), 1);
        CHECK.due("pile(0, 1), the next ORDER has not begun", y.pile(0, 1), 2);
        CHECK.due("stands(0)", y.stands(0), 1);
        CHECK.due("minutes(1)", y.minutes(1), 0);
        CHECK.due("tonnes(0, 2, 1)", y.tonnes(0, 2, 1), 2);
    }

    private static void fill(BlendYard x, int layers) {
        for (int i = 0; i < layers; i++) {
            x.lay(0, 0, 0, 0, 1);
        }
    }

    private static void sixtyLayersAsItComes() {
        CHECK.says(22, "60 LAYERS on the PILE as it would come: nothing is laid, the ORDER is done");
        BlendYard x = yard(0);
        fill(x, 60);
        x.toLay(0, 0, 0, 3, 5);
        CHECK.due("minutes(1)", x.minutes(1), 0);
        CHECK.due("count(12)", x.count(12), 0);
        CHECK.due("pile(0, 1)", x.pile(0, 1), 60);
        CHECK.due("pile(0, 2)", x.pile(0, 2), 60);
        CHECK.due("lot(0, 2)", x.lot(0, 2), 840);
        CHECK.due("stands(0)", x.stands(0), 0);
        CHECK.due("count(14)", x.count(14), 0);
        BlendYard y = yard(0);
        fill(y, 59);
        y.toLay(0, 0, 0, 0, 5);
        y.toLay(0, 0, 0, 0, 5);
        y.minutes(1);
        CHECK.due("59 LAYERS: pile(0, 1)", y.pile(0, 1), 60);
        CHECK.due("59 LAYERS: layer(0, 59, 1)", y.layer(0, 59, 1), 5);
        y.minutes(1);
        CHECK.due("60 LAYERS: pile(0, 1)", y.pile(0, 1), 60);
        CHECK.due("60 LAYERS: pile(0, 2)", y.pile(0, 2), 64);
        CHECK.due("60 LAYERS: count(12)", y.count(12), 0);
    }

    private static void sixtyLayersWhileItGoesOn() {
        CHECK.says(22, "60 LAYERS on the PILE as it would come: one that has come goes on");
        BlendYard x = yard(0);
        fill(x, 58);
        x.toLay(0, 0, 0, 3, 5);
        x.minutes(1);
        CHECK.due("pile(0, 1)", x.pile(0, 1), 59);
        x.lay(0, 0, 1, 1, 2);
        CHECK.due("pile(0, 1)", x.pile(0, 1), 60);
        x.minutes(3);
        CHECK.due("layer(0, 58, 2)", x.layer(0, 58, 2), 0b1111);
        CHECK.due("layer(0, 58, 1)", x.layer(0, 58, 1), 20);
        CHECK.due("layer(0, 59, 1)", x.layer(0, 59, 1), 2);
        CHECK.due("count(12)", x.count(12), 0);
    }

    private static void onTopWithItsFirstCell() {
        CHECK.says(22, "in the LAYER of the ORDER, which comes on top with its first CELL");
        BlendYard x = yard(0);
        x.lay(0, 0, 0, 0, 1);
        x.toLay(0, 1, 2, 4, 2);
        x.minutes(2);
        CHECK.due("pile(0, 1), it has not come yet", x.pile(0, 1), 1);
        x.lay(0, 0, 2, 2, 3);
        x.minutes(1);
        CHECK.due("pile(0, 1)", x.pile(0, 1), 3);
        CHECK.due("layer(0, 2, 0)", x.layer(0, 2, 0), 1);
        CHECK.due("tonnes(0, 2, 2)", x.tonnes(0, 2, 2), 2);
        x.lay(0, 0, 3, 3, 4);
        CHECK.due("pile(0, 1), one on top of it", x.pile(0, 1), 4);
        x.minutes(2);
        CHECK.due("layer(0, 2, 2)", x.layer(0, 2, 2), 0b11100);
        CHECK.due("layer(0, 2, 1)", x.layer(0, 2, 1), 6);
        CHECK.due("layer(0, 3, 1)", x.layer(0, 3, 1), 4);
        CHECK.due("pile(0, 1)", x.pile(0, 1), 4);
        CHECK.says(22, "a LAYER of the ORDER of which nothing lies any more goes on, too");
        BlendYard y = yard(0);
        y.toLay(0, 0, 0, 2, 2);
        y.minutes(11);
        y.park(0);
        y.cut(0, 0, 1);
        CHECK.due("layer(0, 0, 1)", y.layer(0, 0, 1), 0);
        y.minutes(12);
        CHECK.due("pile(0, 1)", y.pile(0, 1), 1);
        CHECK.due("layer(0, 0, 2)", y.layer(0, 0, 2), 0b110);
        CHECK.says(22, "two ORDERS with the like numbers lay two LAYERS");
        BlendYard z = yard(0);
        z.toLay(0, 0, 0, 0, 2);
        z.toLay(0, 0, 0, 0, 2);
        z.minutes(12);
        CHECK.due("pile(0, 1)", z.pile(0, 1), 2);
    }

    private static void behindTheLastCell() {
        CHECK.says(22, "Behind the last CELL it is done, too");
        BlendYard x = yard(0);
        x.toLay(0, 0, 5, 5, 2);
        x.minutes(10);
        CHECK.due("count(12)", x.count(12), 1);
        x.minutes(1);
        CHECK.due("one CELL: count(12)", x.count(12), 0);
        CHECK.due("one CELL: stands(0)", x.stands(0), 5);
        CHECK.due("one CELL: layer(0, 0, 2)", x.layer(0, 0, 2), 0b100000);
        x.toLay(0, 0, 6, 7, 2);
        x.minutes(3);
        CHECK.due("up to the last CELL of the PILE: count(12)", x.count(12), 0);
        CHECK.due("up to the last CELL of the PILE: stands(0)", x.stands(0), 7);
        CHECK.due("up to the last CELL of the PILE: layer(0, 1, 2)", x.layer(0, 1, 2), 0b11000000);
        x.toLay(0, 0, 1, 0, 2);
        x.minutes(7);
        CHECK.due("down to the first CELL of the PILE: count(12)", x.count(12), 1);
        x.minutes(1);
        CHECK.due("down to the first CELL of the PILE: count(12)", x.count(12), 0);
        CHECK.due("down to the first CELL of the PILE: stands(0)", x.stands(0), 0);
        CHECK.due("down to the first CELL of the PILE: layer(0, 2, 2)", x.layer(0, 2, 2), 0b11);
    }

    private static void theNextCellIfFree() {
        CHECK.says(22, "Else the GOAL is the next CELL; in the same MINUTE it goes there (a STEP), if that is FREE");
        for (int up = 0; up < 2; up++) {
            BlendYard x = yard(1);
            x.lay(0, 0, 0, 7, 1);
            x.park(0);
            x.cut(0, up == 1 ? 5 : 2, 1);
            int from = up == 1 ? 2 : 5;
            int next = up == 1 ? 3 : 4;
            x.lay(0, 0, from, from, 1);
            int steps = x.count(6);
            x.toLay(0, 0, from, up == 1 ? 4 : 3, 1);
            CHECK.due("minutes(1)", x.minutes(1), 0);
            CHECK.due("stands(0), FREE", x.stands(0), next);
            CHECK.due("count(6)", x.count(6), steps + 1);
            CHECK.due("minutes(1), the next one is not FREE", x.minutes(1), 0);
            CHECK.due("stands(0), not FREE", x.stands(0), next);
            CHECK.due("count(6)", x.count(6), steps + 1);
            CHECK.due("count(14), that is no waiting", x.count(14), 0);
            CHECK.due("count(12)", x.count(12), 1);
            CHECK.due("layer(0, 2, 1)", x.layer(0, 2, 1), 2);
            CHECK.due("minutes(2)", x.minutes(2), 2);
            CHECK.due("count(14), it WAITS", x.count(14), 2);
            CHECK.due("layer(0, 2, 1), nothing more is laid", x.layer(0, 2, 1), 2);
            x.park(1);
            CHECK.due("minutes(1)", x.minutes(1), 0);
            CHECK.due("stands(0)", x.stands(0), up == 1 ? 4 : 3);
            CHECK.due("layer(0, 2, 1), it only goes there", x.layer(0, 2, 1), 2);
            x.minutes(1);
            CHECK.due("layer(0, 2, 1)", x.layer(0, 2, 1), 3);
            CHECK.due("count(12)", x.count(12), 0);
        }
    }

    private static void minutesThatBothWaited() {
        String waits = "in how many of them both machines WAITED, or one did, and the other one had no ORDER";
        CHECK.says(22, waits + ": neither has an ORDER");
        BlendYard x = yard(1);
        CHECK.due("minutes(7)", x.minutes(7), 0);
        CHECK.says(22, waits + ": one goes on alone");
        x.toLay(0, 0, 0, 5, 1);
        CHECK.due("minutes(16)", x.minutes(16), 0);
        CHECK.says(22, waits + ": the TAKER does, the STACKER has none");
        x.toCut(0, 4, 1);
        CHECK.due("minutes(10)", x.minutes(10), 0);
        CHECK.due("minutes(4)", x.minutes(4), 4);
        CHECK.says(22, waits + ": the TAKER does, the STACKER is on its WAY");
        x.toLay(1, 0, 0, 0, 1);
        CHECK.due("minutes(9)", x.minutes(9), 0);
        CHECK.due("count(15)", x.count(15), 13);
        x.drop(0);
        CHECK.says(22, waits + ": the TAKER does, the STACKER lays where it stands");
        x.toLay(0, 0, 5, 5, 1);
        CHECK.due("minutes(1)", x.minutes(1), 0);
        CHECK.due("count(12)", x.count(12), 0);
        CHECK.due("minutes(1), it has none any more", x.minutes(1), 1);
        x.drop(1);
        CHECK.says(22, waits + ": both do");
        BlendYard y = yard(1);
        y.lay(0, 0, 0, 7, 1);
        y.lay(0, 0, 5, 5, 1);
        y.cut(0, 3, 1);
        y.toLay(0, 0, 0, 0, 1);
        y.toCut(0, 7, 1);
        CHECK.due("minutes(6)", y.minutes(6), 6);
        CHECK.due("count(14)", y.count(14), 6);
        CHECK.due("count(15)", y.count(15), 6);
        CHECK.says(22, waits + ": the STACKER does, the TAKER cuts where it stands");
        y.drop(1);
        y.toCut(0, 3, 1);
        CHECK.due("minutes(1)", y.minutes(1), 0);
        CHECK.due("count(13)", y.count(13), 0);
        CHECK.due("count(14)", y.count(14), 7);
        CHECK.says(22, waits + ": the STACKER does, the TAKER has none");
        CHECK.due("minutes(5)", y.minutes(5), 5);
        CHECK.due("count(14)", y.count(14), 12);
        CHECK.due("count(15)", y.count(15), 6);
        CHECK.says(22, waits + ": some of them");
        y.toCut(0, 2, 1);
        CHECK.due("minutes(9), behind two without", y.minutes(9), 7);
        CHECK.due("stands(1)", y.stands(1), 2);
        CHECK.due("stands(0)", y.stands(0), 4);
    }

    private static void ends() {
        CHECK.says(23, "behind how many MINUTES no ORDERS are left (0: none are)");
        BlendYard x = yard(1);
        CHECK.due("ends()", x.ends(), 0);
        x.toCut(0, 0, 1);
        CHECK.due("a CUT from NOWHERE", x.ends(), 11);
        x.drop(1);
        x.toLay(0, 0, 0, 0, 1);
        CHECK.due("a LAY from NOWHERE", x.ends(), 11);
        x.drop(0);
        CHECK.due("dropped", x.ends(), 0);
        x.toLay(0, 0, 0, 7, 1);
        CHECK.due("a LAY along the PILE", x.ends(), 18);
        x.toCut(1, 0, 1);
        CHECK.due("the longer one of both", x.ends(), 18);
        x.minutes(11);
        CHECK.due("behind 11 of them", x.ends(), 7);
        x.minutes(6);
        CHECK.due("behind 17 of them", x.ends(), 1);
        x.minutes(1);
        CHECK.due("behind 18 of them", x.ends(), 0);
        x.toLay(0, 0, 7, 7, 1);
        CHECK.due("a LAY where it stands", x.ends(), 1);
        CHECK.says(23, "-2: some are left then");
        x.drop(0);
        x.toCut(0, 6, 1);
        CHECK.due("the STACKER stands there for ever", x.ends(), -2);
        x.minutes(200);
        CHECK.due("the STACKER stands there still", x.ends(), -2);
        x.park(0);
        CHECK.due("the STACKER is gone", x.ends(), 2);
        x.toLay(0, 0, 6, 6, 1);
        CHECK.due("the TAKER will stand there for ever", x.ends(), -2);
        x.drop(0);
        CHECK.due("one of two ORDERS that end not", x.ends(), 2);
        CHECK.says(23, "500 at most: 16 ORDERS end sooner");
        BlendYard y = Check.yard("lot a tonnes 9999 grade 10;pile p cells 12;pile q cells 12;"
            + "ship s needs 999 low 0 high 999 due 5 load 1;");
        for (int i = 0; i < 8; i++) {
            y.toLay(i % 2, 0, 0, 11, 99);
        }
        CHECK.due("8 LAYERS, from PILE to PILE", y.ends(), 8 * (10 + 12));
        y.minutes(1);
        CHECK.due("a MINUTE later", y.ends(), 8 * (10 + 12) - 1);
    }

    private static void endsInThought() {
        CHECK.says(23, "In thought");
        BlendYard x = yard(1);
        x.lay(0, 0, 0, 7, 2);
        x.cut(0, 0, 1);
        x.toLay(0, 1, 6, 5, 3);
        x.toCut(1, 1, 1);
        x.toCut(0, 1, 1);
        x.minutes(3);
        int[] before = new int[17];
        for (int what = 0; what < 17; what++) {
            before[what] = x.count(what);
        }
        int stacker = x.stands(0);
        CHECK.due("ends()", x.ends(), 7 + 1 + 10 + 1);
        CHECK.due("ends() again", x.ends(), 7 + 1 + 10 + 1);
        for (int what = 0; what < 17; what++) {
            CHECK.due("count(" + what + ")", x.count(what), before[what]);
        }
        CHECK.due("stands(0)", x.stands(0), stacker);
        CHECK.due("stands(1)", x.stands(1), 0);
        CHECK.due("ship(1, 6)", x.ship(1, 6), 2);
        CHECK.due("lot(1, 2)", x.lot(1, 2), 1);
        CHECK.due("pile(0, 2)", x.pile(0, 2), 14 + 6);
        x.minutes(7);
        CHECK.due("stands(1), its WAY was not lengthened", x.stands(1), 101);
    }
}
