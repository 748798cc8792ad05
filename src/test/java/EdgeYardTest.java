/** Promises 4 to 16 and the second of the terms: each sentence that names an edge of what stands, is laid, is cut. */
public final class EdgeYardTest {
    private static final Check CHECK = new Check("EdgeYardTest");
    private static final int MIN = Integer.MIN_VALUE;
    private static final int MAX = Integer.MAX_VALUE;
    private static final String YARD = "lot a tonnes 60 grade 100;lot b tonnes 9 grade 200;pile p cells 6;pile q cells 4;"
        + "ship s needs 10 low 0 high 999 due 5 load 1;ship t needs 999 low 0 high 999 due 5 load 1;gap 1;";

    public static void main(String[] args) {
        counts();
        lots();
        ships();
        piles();
        layers();
        tonnes();
        stands();
        apart();
        stepsOnAPile();
        stepsFromElsewhere();
        eitherWay();
        aNewLayer();
        tonnesLess();
        allThatLiesThere();
        laidOnAgain();
        aLayerStays();
        gaps();
        between();
        noSuch();
        tFromOneTo99();
        notSoManyTonnes();
        nothingLiesThere();
        hasWhatItNeeds();
        sixtyLayers();
        fullPiles();
        theFirstOfThese();
        nothingHappens();
        park();
        CHECK.end();
    }

    private static void counts() {
        CHECK.says(4, "NONE for another what");
        BlendYard x = Check.yard(YARD);
        for (int what : new int[] {-1, -2, 17, 18, 256, MIN, MAX}) {
            CHECK.due("count(" + what + ")", x.count(what), -1);
        }
        CHECK.says(4, "What 0: LOTS, 1: PILES, 2: SHIPS, 3: gap, 4: DAY, 5: SHIPS that sailed, ..: each its own");
        BlendYard y = Check.yard("lot a tonnes 99 grade 7;lot b tonnes 9 grade 1;lot c tonnes 9 grade 1;lot d tonnes 9 grade 1;"
            + "pile p cells 4;pile q cells 4;ship s needs 3 low 0 high 999 due 2 load 1;ship t needs 9 low 0 high 999 due 1 load 1;"
            + "ship u needs 9 low 0 high 999 due 9 load 1;gap 0;");
        y.lay(0, 0, 0, 3, 3);
        y.cut(0, 0, 0);
        y.days(7);
        y.sail(0);
        y.toLay(0, 0, 3, 2, 1);
        y.toLay(0, 0, 0, 0, 1);
        y.toCut(0, 3, 1);
        y.minutes(8);
        y.image(1, false);
        Check.feed(y, "gap 1;");
        int[] want = {4, 2, 3, 0, 7, 1, 14, 11, 8, 1, 20, 2, 1, 1, 6, 7, 8};
        for (int what = 0; what < want.length; what++) {
            CHECK.due("count(" + what + ")", y.count(what), want[what]);
        }
    }

    private static void lots() {
        CHECK.says(5, "NoSuchElementException: others, none such");
        BlendYard x = Check.yard(YARD);
        for (int what : new int[] {-1, 3, 4, MIN, MAX}) {
            CHECK.lacks("lot(0, " + what + ")", () -> x.lot(0, what));
            CHECK.lacks("lot(1, " + what + ")", () -> x.lot(1, what));
        }
        for (int lot : new int[] {-1, 2, 11, 12, MIN, MAX}) {
            for (int what = -1; what <= 3; what++) {
                int w = what;
                CHECK.lacks("lot(" + lot + ", " + what + ")", () -> x.lot(lot, w));
            }
        }
        CHECK.says(5, "what 0: tonnes told, 1: grade, 2: tonnes left");
        x.lay(0, 1, 0, 2, 3);
        int[] want = {9, 200, 0};
        for (int what = 0; what < 3; what++) {
            CHECK.due("lot(1, " + what + "), none left", x.lot(1, what), want[what]);
        }
        CHECK.due("lot(0, 2)", x.lot(0, 2), 60);
    }

    private static void ships() {
        CHECK.says(6, "NoSuchElementException: others, none such");
        BlendYard x = Check.yard(YARD);
        for (int what : new int[] {-1, 10, 11, MIN, MAX}) {
            CHECK.lacks("ship(0, " + what + ")", () -> x.ship(0, what));
            CHECK.lacks("ship(1, " + what + ")", () -> x.ship(1, what));
        }
        for (int ship : new int[] {-1, 2, 7, 8, MIN, MAX}) {
            for (int what = -1; what <= 10; what++) {
                int w = what;
                CHECK.lacks("ship(" + ship + ", " + what + ")", () -> x.ship(ship, w));
            }
        }
        CHECK.says(6, "7: the DAY on which it sailed (NONE: it did not)");
        CHECK.due("ship(0, 7)", x.ship(0, 7), -1);
        x.lay(0, 0, 0, 0, 20);
        x.park(0);
        x.cut(0, 0, 0);
        CHECK.due("ship(0, 7), FULL", x.ship(0, 7), -1);
        x.sail(0);
        CHECK.due("ship(0, 7), on DAY 0", x.ship(0, 7), 0);
        x.days(1);
        CHECK.due("ship(0, 7), the DAY behind it", x.ship(0, 7), 0);
        CHECK.says(6, "6: tonnes in its hold");
        CHECK.due("ship(0, 6), more than it needs", x.ship(0, 6), 20);
        CHECK.due("ship(1, 6)", x.ship(1, 6), 0);
    }

    private static void piles() {
        CHECK.says(7, "-2: others, none such");
        BlendYard x = Check.yard(YARD);
        for (int what : new int[] {-1, 3, 4, MIN, MAX}) {
            CHECK.due("pile(0, " + what + ")", x.pile(0, what), -2);
        }
        for (int pile : new int[] {-1, 2, 3, MIN, MAX}) {
            for (int what = -1; what <= 3; what++) {
                CHECK.due("pile(" + pile + ", " + what + ")", x.pile(pile, what), -2);
            }
        }
        CHECK.says(7, "what 0: CELLS, 1: LAYERS, 2: tonnes that lie on it");
        x.lay(1, 0, 0, 3, 5);
        x.lay(1, 1, 3, 3, 9);
        int[][] want = {{6, 0, 0}, {4, 2, 29}};
        for (int pile = 0; pile < 2; pile++) {
            for (int what = 0; what < 3; what++) {
                CHECK.due("pile(" + pile + ", " + what + ")", x.pile(pile, what), want[pile][what]);
            }
        }
    }

    private static void layers() {
        CHECK.says(8, "-2: others, none such");
        BlendYard x = Check.yard(YARD);
        for (int what = -1; what <= 3; what++) {
            CHECK.due("layer(0, 0, " + what + "), no LAYERS", x.layer(0, 0, what), -2);
        }
        x.lay(0, 0, 0, 5, 2);
        x.lay(0, 1, 5, 5, 3);
        x.lay(1, 0, 3, 3, 4);
        for (int what : new int[] {-1, 3, 4, MIN, MAX}) {
            CHECK.due("layer(0, 0, " + what + ")", x.layer(0, 0, what), -2);
        }
        for (int layer : new int[] {-1, 2, 60, MIN, MAX}) {
            CHECK.due("layer(0, " + layer + ", 0)", x.layer(0, layer, 0), -2);
            CHECK.due("layer(0, " + layer + ", 1)", x.layer(0, layer, 1), -2);
        }
        CHECK.due("layer(1, 1, 0)", x.layer(1, 1, 0), -2);
        for (int pile : new int[] {-1, 2, 3, MIN, MAX}) {
            CHECK.due("layer(" + pile + ", 0, 0)", x.layer(pile, 0, 0), -2);
        }
        CHECK.says(8, "Of a LAYER (0 the lowest)");
        CHECK.due("layer(0, 0, 0)", x.layer(0, 0, 0), 0);
        CHECK.due("layer(0, 1, 0)", x.layer(0, 1, 0), 1);
        CHECK.says(8, "2: CELLS on which some do, as bits");
        CHECK.due("layer(0, 0, 2), all", x.layer(0, 0, 2), 0b111111);
        CHECK.due("layer(0, 1, 2), the last one", x.layer(0, 1, 2), 0b100000);
        x.park(0);
        x.cut(0, 0, 1);
        CHECK.due("layer(0, 0, 2), all but the first one", x.layer(0, 0, 2), 0b111110);
        CHECK.says(8, "1: tonnes that still lie in it");
        CHECK.due("layer(0, 0, 1)", x.layer(0, 0, 1), 10);
        CHECK.due("layer(0, 1, 1)", x.layer(0, 1, 1), 3);
    }

    private static void tonnes() {
        CHECK.says(9, "-2: none such");
        BlendYard x = Check.yard(YARD);
        CHECK.due("tonnes(0, 0, 0), no LAYERS", x.tonnes(0, 0, 0), -2);
        x.lay(0, 0, 0, 4, 2);
        x.lay(1, 0, 1, 1, 4);
        for (int w : new int[] {-1, 6, 60, MIN, MAX}) {
            CHECK.due("tonnes(0, 0, " + w + ")", x.tonnes(0, 0, w), -2);
            CHECK.due("tonnes(0, " + w + ", 0)", x.tonnes(0, w, 0), -2);
            CHECK.due("tonnes(" + w + ", 0, 0)", x.tonnes(w, 0, 0), -2);
        }
        CHECK.due("tonnes(0, 1, 0)", x.tonnes(0, 1, 0), -2);
        CHECK.due("tonnes(1, 0, 4)", x.tonnes(1, 0, 4), -2);
        CHECK.due("tonnes(2, 0, 0)", x.tonnes(2, 0, 0), -2);
        CHECK.says(9, "Tonnes of a LAYER on a CELL: none of them is 0, not -2");
        CHECK.due("tonnes(0, 0, 5)", x.tonnes(0, 0, 5), 0);
        CHECK.due("tonnes(0, 0, 4)", x.tonnes(0, 0, 4), 2);
        CHECK.due("tonnes(1, 0, 0)", x.tonnes(1, 0, 0), 0);
        CHECK.due("tonnes(1, 0, 3)", x.tonnes(1, 0, 3), 0);
    }

    private static void stands() {
        CHECK.says(10, "-2: another machine");
        BlendYard x = Check.yard(YARD);
        for (int machine : new int[] {-1, 2, 3, MIN, MAX}) {
            CHECK.due("stands(" + machine + ")", x.stands(machine), -2);
        }
        CHECK.says(10, "NONE: NOWHERE; the STACKER and the TAKER stand NOWHERE at first");
        CHECK.due("stands(0)", x.stands(0), -1);
        CHECK.due("stands(1)", x.stands(1), -1);
        CHECK.says(10, "100 times the PILE and the CELL");
        BlendYard y = Check.yard("lot a tonnes 99 grade 1;pile p cells 2;pile q cells 2;pile r cells 12;gap 0;"
            + "ship s needs 9 low 0 high 9 due 1 load 1;");
        y.lay(0, 0, 0, 0, 1);
        CHECK.due("stands(0), the first CELL of the first PILE is not NOWHERE", y.stands(0), 0);
        y.lay(2, 0, 10, 11, 1);
        CHECK.due("stands(0), the twelfth CELL of the third PILE", y.stands(0), 211);
        y.cut(0, 0, 0);
        CHECK.due("stands(1)", y.stands(1), 0);
        y.cut(2, 10, 0);
        CHECK.due("stands(1)", y.stands(1), 210);
    }

    private static void apart() {
        CHECK.says(11, "-2: they don't stand on one PILE");
        BlendYard x = Check.yard("lot a tonnes 900 grade 1;pile p cells 12;pile q cells 12;gap 0;"
            + "ship s needs 999 low 0 high 9 due 1 load 1;");
        CHECK.due("both NOWHERE", x.apart(), -2);
        x.lay(1, 0, 0, 11, 1);
        CHECK.due("the TAKER NOWHERE", x.apart(), -2);
        x.lay(0, 0, 0, 11, 1);
        x.cut(1, 11, 0);
        CHECK.due("on two PILES, of like CELLS", x.apart(), -2);
        x.park(0);
        CHECK.due("the STACKER NOWHERE", x.apart(), -2);
        CHECK.says(11, "How many CELLS the machines are apart");
        x.lay(1, 0, 10, 10, 1);
        CHECK.due("one", x.apart(), 1);
        x.lay(1, 0, 0, 0, 1);
        CHECK.due("from end to end", x.apart(), 11);
        x.cut(1, 1, 0);
        CHECK.due("one, the other way", x.apart(), 1);
    }

    private static void stepsOnAPile() {
        CHECK.says(13, "from one CELL of a PILE to another one of it as many as they are apart");
        BlendYard x = Check.yard("lot a tonnes 900 grade 1;pile p cells 12;gap 0;ship s needs 999 low 0 high 9 due 1 load 1;");
        x.lay(0, 0, 0, 11, 1);
        CHECK.due("lay where it stands", x.lay(0, 0, 11, 11, 1), 0);
        CHECK.due("lay a CELL off", x.lay(0, 0, 10, 10, 1), 1);
        CHECK.due("lay from end to end", x.lay(0, 0, 0, 0, 1), 10);
        CHECK.due("lay to the far end and back", x.lay(0, 0, 11, 0, 1), 22);
        CHECK.due("count(6)", x.count(6), 21 + 0 + 1 + 10 + 22);
        x.cut(0, 1, 0);
        CHECK.due("count(7)", x.count(7), 10);
        x.cut(0, 11, 0);
        CHECK.due("count(7), from end to end", x.count(7), 20);
        x.park(0);
        x.lay(0, 0, 10, 10, 1);
        x.park(0);
        x.lay(0, 0, 11, 11, 1);
        CHECK.due("cut with the STACKER there, gap 0", x.cut(0, 11, 0), -1);
        x.park(0);
        x.cut(0, 11, 0);
        CHECK.due("count(7), where it stands", x.count(7), 20);
    }

    private static void stepsFromElsewhere() {
        CHECK.says(13, "from NOWHERE, from another PILE 10");
        BlendYard x = Check.yard("lot a tonnes 900 grade 1;pile p cells 12;pile q cells 12;gap 0;"
            + "ship s needs 999 low 0 high 9 due 1 load 1;");
        CHECK.due("from NOWHERE to the last CELL", x.lay(0, 0, 11, 11, 1), 10);
        CHECK.due("from a PILE to another one, the like CELL", x.lay(1, 0, 11, 11, 1), 10);
        CHECK.due("from a PILE to another one, the other end", x.lay(0, 0, 0, 0, 1), 10);
        CHECK.due("from a PILE to another one, and along it", x.lay(1, 0, 0, 11, 1), 21);
        x.park(0);
        CHECK.due("from NOWHERE where it stood", x.lay(1, 0, 11, 11, 1), 10);
        x.cut(0, 11, 0);
        CHECK.due("count(7), from NOWHERE", x.count(7), 10);
        x.cut(1, 0, 0);
        CHECK.due("count(7), from another PILE", x.count(7), 20);
        x.park(1);
        CHECK.due("count(7), park() takes no STEPS", x.count(7), 20);
        x.cut(1, 1, 0);
        CHECK.due("count(7), from NOWHERE again", x.count(7), 30);
    }

    private static void eitherWay() {
        CHECK.says(13, "from one CELL to another one (either way): along to the last one, where it stands then");
        BlendYard x = Check.yard(YARD);
        CHECK.due("upwards", x.lay(0, 0, 0, 5, 1), 15);
        CHECK.due("stands(0)", x.stands(0), 5);
        CHECK.due("downwards", x.lay(0, 0, 4, 1, 2), 4);
        CHECK.due("stands(0)", x.stands(0), 1);
        CHECK.due("layer(0, 1, 2)", x.layer(0, 1, 2), 0b011110);
        CHECK.due("layer(0, 1, 1)", x.layer(0, 1, 1), 8);
        CHECK.due("one CELL", x.lay(0, 0, 3, 3, 3), 2);
        CHECK.due("stands(0)", x.stands(0), 3);
        CHECK.due("layer(0, 2, 2)", x.layer(0, 2, 2), 0b001000);
        CHECK.due("layer(0, 2, 1)", x.layer(0, 2, 1), 3);
    }

    private static void aNewLayer() {
        CHECK.says(13, "a new LAYER lies on top of all others of the PILE");
        BlendYard x = Check.yard(YARD);
        for (int i = 0; i < 4; i++) {
            x.lay(i % 2, i / 2, 0, 0, 1 + i);
            CHECK.due("pile(0, 1)", x.pile(0, 1), i / 2 + 1);
            CHECK.due("pile(1, 1)", x.pile(1, 1), (i + 1) / 2);
        }
        for (int pile = 0; pile < 2; pile++) {
            for (int layer = 0; layer < 2; layer++) {
                CHECK.due("layer(" + pile + ", " + layer + ", 0)", x.layer(pile, layer, 0), layer);
                CHECK.due("tonnes(" + pile + ", " + layer + ", 0)", x.tonnes(pile, layer, 0), 1 + 2 * layer + pile);
            }
        }
    }

    private static void tonnesLess() {
        CHECK.says(13, "the LOT has as many tonnes less");
        BlendYard x = Check.yard(YARD);
        x.lay(0, 0, 2, 3, 20);
        CHECK.due("lot(0, 2)", x.lot(0, 2), 20);
        x.lay(0, 0, 5, 1, 4);
        CHECK.due("lot(0, 2), none", x.lot(0, 2), 0);
        CHECK.due("lot(0, 0), as told", x.lot(0, 0), 60);
        CHECK.due("lot(1, 2), the other one", x.lot(1, 2), 9);
    }

    private static void allThatLiesThere() {
        CHECK.says(15, "all that lies there comes into a SHIP's hold");
        BlendYard x = Check.yard(YARD);
        x.lay(0, 0, 0, 1, 5);
        x.lay(0, 1, 1, 0, 4);
        x.lay(0, 0, 1, 1, 20);
        x.park(0);
        CHECK.due("cut(0, 1, 0), more than it needs", x.cut(0, 1, 0), 29);
        CHECK.due("ship(0, 6)", x.ship(0, 6), 29);
        CHECK.due("pile(0, 2), the other CELL", x.pile(0, 2), 9);
        for (int layer = 0; layer < 3; layer++) {
            CHECK.due("tonnes(0, " + layer + ", 1)", x.tonnes(0, layer, 1), 0);
        }
        CHECK.due("cut(0, 0, 1)", x.cut(0, 0, 1), 9);
        CHECK.due("pile(0, 2), empty", x.pile(0, 2), 0);
        CHECK.due("lot(0, 2), none comes back", x.lot(0, 2), 30);
    }

    private static void laidOnAgain() {
        CHECK.says(13, "A CELL can be laid on again, in new LAYERS");
        BlendYard x = Check.yard(YARD);
        x.lay(0, 0, 2, 2, 5);
        x.park(0);
        x.cut(0, 2, 1);
        x.park(1);
        CHECK.due("lay on the CELL that was cut", x.lay(0, 0, 2, 2, 6), 10);
        CHECK.due("pile(0, 1)", x.pile(0, 1), 2);
        CHECK.due("tonnes(0, 0, 2)", x.tonnes(0, 0, 2), 0);
        CHECK.due("tonnes(0, 1, 2)", x.tonnes(0, 1, 2), 6);
        x.park(0);
        CHECK.due("cut it again", x.cut(0, 2, 1), 6);
        CHECK.due("ship(1, 6)", x.ship(1, 6), 11);
    }

    private static void aLayerStays() {
        CHECK.says(15, "A LAYER of which nothing lies any more stays, with 0 on each CELL");
        BlendYard x = Check.yard(YARD);
        x.lay(0, 1, 2, 2, 5);
        x.lay(0, 0, 2, 3, 5);
        x.park(0);
        x.cut(0, 2, 1);
        CHECK.due("pile(0, 1)", x.pile(0, 1), 2);
        int[] want = {1, 0, 0};
        for (int what = 0; what < 3; what++) {
            CHECK.due("layer(0, 0, " + what + ")", x.layer(0, 0, what), want[what]);
        }
        for (int cell = 0; cell < 6; cell++) {
            CHECK.due("tonnes(0, 0, " + cell + ")", x.tonnes(0, 0, cell), 0);
        }
        CHECK.due("layer(0, 1, 2)", x.layer(0, 1, 2), 0b001000);
    }

    /** Gap CELLS off is too near, one more is not, for each machine, each gap, each way, each CELL. */
    private static void gaps() {
        CHECK.says(12, "If the other one stands on that PILE, none of these may be gap or fewer CELLS from it");
        for (int gap = 0; gap <= 3; gap++) {
            for (int other = 0; other < 12; other++) {
                BlendYard x = Check.yard("lot a tonnes 900 grade 1;pile p cells 12;pile q cells 12;gap " + gap + ";"
                    + "ship s needs 999 low 0 high 9 due 1 load 1;");
                x.lay(0, 0, 0, 11, 1);
                x.lay(0, 0, other, other, 1);
                for (int cell = 0; cell < 12; cell++) {
                    CHECK.due("whyCut(0, " + cell + ", 0), STACKER at " + other + ", gap " + gap,
                        x.whyCut(0, cell, 0), Math.abs(cell - other) <= gap ? 4 : 0);
                }
                x.park(0);
                x.cut(0, other, 0);
                for (int from = 0; from < 12; from++) {
                    for (int to = 0; to < 12; to++) {
                        boolean free = Math.min(from, to) > other + gap || Math.max(from, to) < other - gap;
                        CHECK.due("whyLay(0, 0, " + from + ", " + to + ", 1), TAKER at " + other + ", gap " + gap,
                            x.whyLay(0, 0, from, to, 1), free ? 0 : 4);
                    }
                    CHECK.due("whyLay(1, 0, " + from + ", 0, 1), TAKER on another PILE", x.whyLay(1, 0, from, 0, 1), 0);
                }
            }
        }
    }

    /** The mover at 0, the other one at 5: none comes by, but from another PILE or from NOWHERE. */
    private static void between() {
        CHECK.says(12, "on its way on one PILE those between, too");
        String yard = "lot a tonnes 900 grade 1;pile p cells 12;pile q cells 12;gap 1;ship s needs 999 low 0 high 9 due 1 load 1;";
        for (int at : new int[] {0, 11}) {
            BlendYard x = Check.yard(yard);
            x.lay(0, 0, 0, 11, 1);
            x.lay(1, 0, 0, 0, 1);
            x.cut(0, 5, 0);
            x.lay(0, 0, at, at, 1);
            for (int cell = 0; cell < 12; cell++) {
                boolean comesBy = (at == 0 ? cell >= 4 : cell <= 6);
                CHECK.due("whyLay to " + cell + ", STACKER at " + at, x.whyLay(0, 0, cell, cell, 1), comesBy ? 4 : 0);
            }
            x.lay(1, 0, 5, 5, 1);
            for (int cell = 0; cell < 12; cell++) {
                boolean near = Math.abs(cell - 5) <= 1;
                CHECK.due("whyLay to " + cell + " from another PILE", x.whyLay(0, 0, cell, cell, 1), near ? 4 : 0);
            }
            x.park(0);
            for (int cell = 0; cell < 12; cell++) {
                boolean near = Math.abs(cell - 5) <= 1;
                CHECK.due("whyLay to " + cell + " from NOWHERE", x.whyLay(0, 0, cell, cell, 1), near ? 4 : 0);
            }
            BlendYard y = Check.yard(yard);
            y.lay(0, 0, 0, 11, 1);
            y.lay(1, 0, 0, 0, 1);
            y.cut(0, at, 0);
            y.lay(0, 0, 5, 5, 1);
            y.park(0);
            y.lay(0, 0, 5, 5, 1);
            for (int cell = 0; cell < 12; cell++) {
                boolean comesBy = (at == 0 ? cell >= 4 : cell <= 6);
                int want = cell == at ? 2 : comesBy ? 4 : 0;
                CHECK.due("whyCut of " + cell + ", TAKER at " + at, y.whyCut(0, cell, 0), want);
            }
            y.cut(1, 0, 0);
            for (int cell = 0; cell < 12; cell++) {
                int want = cell == at ? 2 : Math.abs(cell - 5) <= 1 ? 4 : 0;
                CHECK.due("whyCut of " + cell + " from another PILE", y.whyCut(0, cell, 0), want);
            }
            y.park(1);
            for (int cell = 0; cell < 12; cell++) {
                int want = cell == at ? 2 : Math.abs(cell - 5) <= 1 ? 4 : 0;
                CHECK.due("whyCut of " + cell + " from NOWHERE", y.whyCut(0, cell, 0), want);
            }
        }
        CHECK.says(12, "a machine sweeps the CELLS that it goes along");
        BlendYard x = Check.yard(yard);
        x.lay(0, 0, 0, 11, 1);
        x.lay(1, 0, 0, 0, 1);
        x.cut(0, 5, 0);
        CHECK.due("up to it", x.whyLay(0, 0, 0, 3, 1), 0);
        CHECK.due("up to it, a CELL more", x.whyLay(0, 0, 0, 4, 1), 4);
        CHECK.due("across it", x.whyLay(0, 0, 3, 7, 1), 4);
        CHECK.due("across it, the other way", x.whyLay(0, 0, 7, 3, 1), 4);
        CHECK.due("down to it", x.whyLay(0, 0, 11, 7, 1), 0);
        CHECK.due("down to it, a CELL more", x.whyLay(0, 0, 11, 6, 1), 4);
    }

    private static final int[] WRONG = {-1, MIN, MAX, 1 << 30};

    private static void noSuch() {
        CHECK.says(12, "1 no such LOT, PILE, CELL (LAY)");
        BlendYard x = Check.yard(YARD);
        for (int w : WRONG) {
            CHECK.due("pile " + w, x.whyLay(w, 0, 0, 0, 1), 1);
            CHECK.due("lot " + w, x.whyLay(0, w, 0, 0, 1), 1);
            CHECK.due("from " + w, x.whyLay(0, 0, w, 0, 1), 1);
            CHECK.due("to " + w, x.whyLay(0, 0, 0, w, 1), 1);
            CHECK.due("from and to " + w, x.whyLay(0, 0, w, w, 1), 1);
            CHECK.due("lay, from and to " + w, x.lay(0, 0, w, w, 1), -1);
        }
        CHECK.due("pile 2", x.whyLay(2, 0, 0, 0, 1), 1);
        CHECK.due("pile 1", x.whyLay(1, 0, 0, 0, 1), 0);
        CHECK.due("lot 2", x.whyLay(0, 2, 0, 0, 1), 1);
        CHECK.due("lot 1", x.whyLay(0, 1, 0, 0, 1), 0);
        CHECK.due("from 6 of 6", x.whyLay(0, 0, 6, 5, 1), 1);
        CHECK.due("to 6 of 6", x.whyLay(0, 0, 5, 6, 1), 1);
        CHECK.due("from 5 of 6", x.whyLay(0, 0, 5, 5, 1), 0);
        CHECK.due("from 4 of 4", x.whyLay(1, 0, 4, 0, 1), 1);
        CHECK.due("to 4 of 4", x.whyLay(1, 0, 0, 4, 1), 1);
        CHECK.due("to 3 of 4", x.whyLay(1, 0, 3, 3, 1), 0);
        CHECK.says(14, "1 no such PILE, CELL, SHIP (CUT)");
        x.lay(0, 0, 0, 5, 1);
        x.lay(1, 0, 0, 3, 1);
        x.park(0);
        for (int w : WRONG) {
            CHECK.due("pile " + w, x.whyCut(w, 0, 0), 1);
            CHECK.due("cell " + w, x.whyCut(0, w, 0), 1);
            CHECK.due("ship " + w, x.whyCut(0, 0, w), 1);
        }
        CHECK.due("pile 2", x.whyCut(2, 0, 0), 1);
        CHECK.due("pile 1", x.whyCut(1, 0, 0), 0);
        CHECK.due("cell 6 of 6", x.whyCut(0, 6, 0), 1);
        CHECK.due("cell 5 of 6", x.whyCut(0, 5, 0), 0);
        CHECK.due("cell 4 of 4", x.whyCut(1, 4, 0), 1);
        CHECK.due("cell 3 of 4", x.whyCut(1, 3, 0), 0);
        CHECK.due("ship 2", x.whyCut(0, 0, 2), 1);
        CHECK.due("ship 1", x.whyCut(0, 0, 1), 0);
    }

    private static void tFromOneTo99() {
        CHECK.says(12, "1 .. t below 1 or above 99");
        BlendYard x = Check.yard("lot a tonnes 9999 grade 1;pile p cells 12;");
        for (int t : new int[] {0, -1, -99, 100, 101, MIN, MAX, (1 << 30) + 1}) {
            CHECK.due("t " + t, x.whyLay(0, 0, 0, 0, t), 1);
            CHECK.due("t " + t + " on 12 CELLS", x.whyLay(0, 0, 11, 0, t), 1);
            CHECK.due("lay, t " + t, x.lay(0, 0, 0, 0, t), -1);
        }
        for (int t : new int[] {1, 2, 98, 99}) {
            CHECK.due("t " + t, x.whyLay(0, 0, 0, 0, t), 0);
        }
        CHECK.due("lay, t 99", x.lay(0, 0, 0, 11, 99), 21);
        CHECK.due("lot(0, 2)", x.lot(0, 2), 9999 - 12 * 99);
    }

    private static void notSoManyTonnes() {
        CHECK.says(12, "2 not so many tonnes of the LOT are left (LAY)");
        BlendYard x = Check.yard(YARD);
        CHECK.due("all 60", x.whyLay(0, 0, 0, 5, 10), 0);
        CHECK.due("66 of 60", x.whyLay(0, 0, 0, 5, 11), 2);
        CHECK.due("66 of 60, the other way", x.whyLay(0, 0, 5, 0, 11), 2);
        CHECK.due("60 on one CELL", x.whyLay(0, 0, 0, 0, 60), 0);
        CHECK.due("61 on one CELL", x.whyLay(0, 0, 0, 0, 61), 2);
        CHECK.due("9 on 3", x.whyLay(0, 1, 1, 3, 3), 0);
        CHECK.due("12 on 4", x.whyLay(0, 1, 1, 4, 3), 2);
        x.lay(0, 1, 0, 0, 8);
        CHECK.due("the last tonne", x.whyLay(0, 1, 0, 0, 1), 0);
        CHECK.due("a tonne more", x.whyLay(0, 1, 0, 0, 2), 2);
        CHECK.due("a tonne more, on two CELLS", x.whyLay(0, 1, 0, 1, 1), 2);
        x.lay(0, 1, 0, 0, 1);
        CHECK.due("none is left", x.whyLay(0, 1, 0, 0, 1), 2);
        CHECK.due("lay", x.lay(0, 1, 0, 0, 1), -1);
        CHECK.due("the other LOT", x.whyLay(0, 0, 0, 0, 1), 0);
    }

    private static void nothingLiesThere() {
        CHECK.says(14, "2 .. nothing lies there (CUT)");
        BlendYard x = Check.yard(YARD);
        CHECK.due("no LAYERS", x.whyCut(0, 3, 0), 2);
        x.lay(0, 0, 3, 4, 1);
        x.park(0);
        CHECK.due("beside the LAYER", x.whyCut(0, 2, 0), 2);
        CHECK.due("behind the LAYER", x.whyCut(0, 5, 0), 2);
        CHECK.due("a tonne", x.whyCut(0, 3, 0), 0);
        CHECK.due("another PILE", x.whyCut(1, 3, 0), 2);
        x.cut(0, 3, 0);
        CHECK.due("cut already", x.whyCut(0, 3, 0), 2);
        CHECK.due("cut()", x.cut(0, 3, 0), -1);
        CHECK.due("the CELL beside it", x.whyCut(0, 4, 0), 0);
    }

    private static void hasWhatItNeeds() {
        CHECK.says(14, "3 the SHIP sailed, or has what it needs");
        BlendYard x = Check.yard(YARD);
        x.lay(0, 0, 0, 0, 9);
        x.lay(0, 0, 1, 2, 1);
        x.lay(0, 0, 3, 3, 10);
        x.park(0);
        x.cut(0, 0, 0);
        CHECK.due("a tonne less than it needs", x.whyCut(0, 1, 0), 0);
        x.cut(0, 1, 0);
        CHECK.due("just what it needs", x.whyCut(0, 2, 0), 3);
        CHECK.due("cut()", x.cut(0, 2, 0), -1);
        x.sail(0);
        CHECK.due("it sailed", x.whyCut(0, 2, 0), 3);
        CHECK.due("cut()", x.cut(0, 2, 0), -1);
        CHECK.due("another SHIP", x.whyCut(0, 2, 1), 0);
        CHECK.says(14, "FULL: the tonnes that it needs or more");
        BlendYard y = Check.yard(YARD);
        y.lay(0, 0, 0, 1, 20);
        y.park(0);
        y.cut(0, 0, 0);
        CHECK.due("ten more than it needs", y.whyCut(0, 1, 0), 3);
    }

    private static void sixtyLayers() {
        CHECK.says(12, "5: 60 LAYERS are on the PILE (LAY)");
        BlendYard x = Check.yard("lot a tonnes 200 grade 1;pile p cells 2;pile q cells 2;gap 0;"
            + "ship s needs 99 low 0 high 9 due 1 load 1;");
        for (int i = 0; i < 60; i++) {
            CHECK.due("whyLay, " + i + " LAYERS", x.whyLay(0, 0, 0, 0, 1), 0);
            CHECK.due("lay, " + i + " LAYERS", x.lay(0, 0, 0, 0, 1), i == 0 ? 10 : 0);
        }
        CHECK.due("whyLay, 60 LAYERS", x.whyLay(0, 0, 0, 0, 1), 5);
        CHECK.due("whyLay, 60 LAYERS, the other CELL", x.whyLay(0, 0, 1, 1, 1), 5);
        CHECK.due("lay, 60 LAYERS", x.lay(0, 0, 0, 0, 1), -1);
        CHECK.due("pile(0, 1)", x.pile(0, 1), 60);
        CHECK.due("pile(0, 2)", x.pile(0, 2), 60);
        CHECK.due("layer(0, 59, 1)", x.layer(0, 59, 1), 1);
        CHECK.due("another PILE", x.whyLay(1, 0, 0, 0, 1), 0);
        x.lay(1, 0, 0, 0, 1);
        x.cut(0, 0, 0);
        CHECK.due("60 LAYERS of which nothing lies", x.whyLay(0, 0, 1, 1, 1), 5);
        CHECK.due("pile(0, 1)", x.pile(0, 1), 60);
        x.undo();
        x.undo();
        x.undo();
        CHECK.due("59 LAYERS again", x.whyLay(0, 0, 0, 0, 1), 0);
    }

    /** LAYERS and PILES without room between them: what is done to one doesn't reach the next one. */
    private static void fullPiles() {
        CHECK.says(13, "12 CELLS, 60 LAYERS: each LAYER, each PILE by itself");
        BlendYard x = Check.yard("lot a tonnes 9999 grade 1;lot b tonnes 9999 grade 7;pile p cells 12;pile q cells 12;pile r cells 12;"
            + "gap 0;ship s needs 999 low 0 high 9 due 1 load 1;");
        for (int pile = 2; pile >= 0; pile--) {
            for (int i = 0; i < 60; i++) {
                x.lay(pile, i % 2, i == 0 ? 0 : 11, i < 2 ? 11 : 11 - i % 3, 1 + pile);
            }
        }
        for (int pile = 0; pile < 3; pile++) {
            int each = 1 + pile;
            CHECK.due("pile(" + pile + ", 1)", x.pile(pile, 1), 60);
            CHECK.due("pile(" + pile + ", 2)", x.pile(pile, 2), (12 + 1 + 19 * 1 + 19 * 2 + 20 * 3) * each);
            CHECK.due("layer(" + pile + ", 0, 1)", x.layer(pile, 0, 1), 12 * each);
            CHECK.due("layer(" + pile + ", 0, 2)", x.layer(pile, 0, 2), 0xfff);
            CHECK.due("layer(" + pile + ", 1, 2)", x.layer(pile, 1, 2), 0x800);
            CHECK.due("layer(" + pile + ", 59, 1)", x.layer(pile, 59, 1), 3 * each);
            CHECK.due("layer(" + pile + ", 59, 2)", x.layer(pile, 59, 2), 0xe00);
            CHECK.due("tonnes(" + pile + ", 59, 11)", x.tonnes(pile, 59, 11), each);
            CHECK.due("layer(" + pile + ", 60, 1)", x.layer(pile, 60, 1), -2);
            CHECK.due("cell(" + pile + ", 0)", x.cell(pile, 0), 1);
            CHECK.due("within(" + pile + ", 1, 1)", x.within(pile, 1, 1), 0x1ff);
            CHECK.due("within(" + pile + ", 2, 999)", x.within(pile, 2, 999), 0xe00);
            CHECK.due("whole(" + pile + ")", x.whole(pile), 242);
            CHECK.due("below()", x.below(), 65);
            CHECK.due("spread(" + pile + ")", x.spread(pile), 3);
            CHECK.due("spreadBelow()", x.spreadBelow(), 1);
        }
        x.park(0);
        CHECK.due("cut(0, 11, 0)", x.cut(0, 11, 0), 60);
        CHECK.due("cut(0, 0, 0)", x.cut(0, 0, 0), 1);
        CHECK.due("tonnes(1, 0, 11)", x.tonnes(1, 0, 11), 2);
        CHECK.due("tonnes(1, 0, 0)", x.tonnes(1, 0, 0), 2);
        CHECK.due("cut(2, 11, 0)", x.cut(2, 11, 0), 180);
        CHECK.due("pile(0, 2)", x.pile(0, 2), 130 - 61);
        CHECK.due("pile(1, 2)", x.pile(1, 2), 130 * 2);
        CHECK.due("pile(2, 2)", x.pile(2, 2), 130 * 3 - 180);
        CHECK.says(13, "a new LAYER holds nothing of one that was taken back");
        BlendYard y = Check.yard(YARD);
        y.lay(0, 0, 0, 5, 3);
        y.undo();
        CHECK.due("cell(0, 0)", y.cell(0, 0), -2);
        y.lay(0, 1, 2, 2, 1);
        CHECK.due("layer(0, 0, 1)", y.layer(0, 0, 1), 1);
        CHECK.due("cell(0, 0)", y.cell(0, 0), -2);
        y.lay(0, 0, 2, 2, 5);
        y.undo();
        CHECK.due("cell(0, 2)", y.cell(0, 2), 200);
        CHECK.due("whole(0)", y.whole(0), 200);
    }

    private static void theFirstOfThese() {
        CHECK.says(12, "WHY NOT, the first of these (LAY)");
        BlendYard x = Check.yard("lot a tonnes 100 grade 1;pile p cells 6;gap 1;ship s needs 99 low 0 high 9 due 1 load 1;");
        x.lay(0, 0, 5, 5, 1);
        for (int i = 0; i < 58; i++) {
            x.lay(0, 0, 0, 0, 1);
        }
        x.park(0);
        x.cut(0, 5, 0);
        CHECK.due("4 alone", x.whyLay(0, 0, 4, 4, 41), 4);
        CHECK.due("2 and 4", x.whyLay(0, 0, 4, 4, 42), 2);
        CHECK.due("1 and 4", x.whyLay(0, 0, 4, 6, 1), 1);
        CHECK.due("1 and 2", x.whyLay(0, 0, 0, 6, 99), 1);
        x.lay(0, 0, 0, 0, 1);
        CHECK.due("5 alone", x.whyLay(0, 0, 0, 3, 10), 5);
        CHECK.due("4 and 5", x.whyLay(0, 0, 0, 4, 1), 4);
        CHECK.due("2 and 5", x.whyLay(0, 0, 0, 3, 11), 2);
        CHECK.due("2, 4 and 5", x.whyLay(0, 0, 0, 4, 9), 2);
        CHECK.due("1 and 5", x.whyLay(0, 0, 0, 0, 0), 1);
        CHECK.due("1, 2, 4 and 5", x.whyLay(0, 0, 0, 6, 99), 1);
        CHECK.says(14, "WHY NOT, the first of these (CUT)");
        BlendYard y = Check.yard(YARD);
        y.lay(0, 0, 0, 0, 10);
        y.lay(0, 0, 2, 3, 1);
        y.park(0);
        y.cut(0, 0, 0);
        y.lay(0, 0, 3, 3, 1);
        CHECK.due("4 alone", y.whyCut(0, 3, 1), 4);
        CHECK.due("3 and 4", y.whyCut(0, 3, 0), 3);
        CHECK.due("2 and 4", y.whyCut(0, 4, 1), 2);
        CHECK.due("2, 3 and 4", y.whyCut(0, 4, 0), 2);
        CHECK.due("2 and 3", y.whyCut(0, 1, 0), 2);
        CHECK.due("1, 2, 3 and 4", y.whyCut(0, 6, 0), 1);
        CHECK.due("1 and 4", y.whyCut(0, 3, 2), 1);
        y.sail(0);
        CHECK.due("3 (sailed) and 4", y.whyCut(0, 3, 0), 3);
        CHECK.due("2 and 3 (sailed)", y.whyCut(0, 1, 0), 2);
    }

    /** All that a lay() or a cut() could change. */
    private static String state(BlendYard x) {
        StringBuilder all = new StringBuilder();
        for (int what = 0; what < 17; what++) {
            all.append(x.count(what)).append(' ');
        }
        for (int i = 0; i < 2; i++) {
            all.append(x.lot(i, 2)).append(' ').append(x.ship(i, 6)).append(' ').append(x.ship(i, 7)).append(' ');
            all.append(x.stands(i)).append(' ').append(x.pile(i, 1)).append(' ').append(x.pile(i, 2)).append(' ');
        }
        return all.toString();
    }

    private static void nothingHappens() {
        CHECK.says(13, "NONE, and nothing happens: it can't be (laid)");
        BlendYard x = Check.yard(YARD);
        x.lay(0, 0, 0, 5, 2);
        x.lay(0, 0, 4, 4, 8);
        x.cut(0, 0, 0);
        String before = state(x);
        int[][] lays = {{2, 0, 0, 0, 1}, {0, 2, 0, 0, 1}, {0, 0, 6, 0, 1}, {0, 0, 0, 6, 1}, {0, 0, 4, 4, 0}, {0, 0, 4, 4, 100},
            {0, 1, 4, 4, 10}, {0, 0, 1, 1, 1}, {0, 0, 4, 1, 1}, {MAX, MAX, MAX, MAX, MAX}, {MIN, MIN, MIN, MIN, MIN}};
        for (int[] l : lays) {
            CHECK.due("lay", x.lay(l[0], l[1], l[2], l[3], l[4]), -1);
            CHECK.due("nothing happens", state(x).equals(before), true);
        }
        CHECK.says(15, "NONE, and nothing happens: it can't be (cut)");
        x = Check.yard(YARD);
        x.lay(0, 0, 0, 5, 2);
        x.lay(0, 0, 4, 4, 8);
        x.cut(0, 0, 0);
        before = state(x);
        int[][] cuts = {{2, 0, 0}, {0, 6, 0}, {0, 2, 2}, {0, 0, 0}, {0, 5, 0}, {0, 3, 0}, {MAX, MAX, MAX}, {MIN, MIN, MIN}};
        for (int[] c : cuts) {
            CHECK.due("cut", x.cut(c[0], c[1], c[2]), -1);
            CHECK.due("nothing happens", state(x).equals(before), true);
        }
        CHECK.says(12, "whyLay() and whyCut() do nothing");
        CHECK.due("whyLay", x.whyLay(0, 0, 4, 5, 1), 0);
        CHECK.due("whyCut", x.whyCut(0, 2, 0), 0);
        CHECK.due("nothing happens", state(x).equals(before), true);
    }

    private static void park() {
        CHECK.says(16, "false: another machine, it is there");
        BlendYard x = Check.yard(YARD);
        CHECK.due("park(0), it is there", x.park(0), false);
        CHECK.due("park(1), it is there", x.park(1), false);
        for (int machine : new int[] {-1, 2, 3, MIN, MAX}) {
            CHECK.due("park(" + machine + ")", x.park(machine), false);
        }
        CHECK.due("count(8)", x.count(8), 0);
        CHECK.says(16, "A machine goes NOWHERE (no STEPS): true");
        x.lay(0, 0, 0, 5, 2);
        x.cut(0, 0, 0);
        for (int machine : new int[] {-1, 2, MIN, MAX}) {
            CHECK.due("park(" + machine + ")", x.park(machine), false);
        }
        CHECK.due("park(0)", x.park(0), true);
        CHECK.due("stands(0)", x.stands(0), -1);
        CHECK.due("stands(1), the other one stays", x.stands(1), 0);
        CHECK.due("park(0) again", x.park(0), false);
        CHECK.due("park(1)", x.park(1), true);
        CHECK.due("stands(1)", x.stands(1), -1);
        CHECK.due("park(1) again", x.park(1), false);
        CHECK.due("count(6)", x.count(6), 15);
        CHECK.due("count(7)", x.count(7), 10);
        CHECK.due("count(8)", x.count(8), 4);
    }
}
