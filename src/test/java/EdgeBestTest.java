/** Promises 34 to 38 and the third of the terms: each sentence that names an edge of LAY ORDER, NEXT, WAY. */
public final class EdgeBestTest {
    private static final Check CHECK = new Check("EdgeBestTest");
    private static final int MIN = Integer.MIN_VALUE;
    private static final int MAX = Integer.MAX_VALUE;
    private static final int[] WRONG = {-1, MIN, MAX, 1 << 30};

    public static void main(String[] args) {
        twoToSix();
        noneSuch();
        anAimThatCannotBe();
        nothingIsLeft();
        countForNothing();
        notSoMany();
        theLeastWorst();
        fromTheFirstOnToAll();
        theFirstByNumbers();
        worstBelow();
        nextNone();
        ofNoneIsEnough();
        nearest();
        whereverMachinesStand();
        wayNone();
        wayNoShip();
        noWay();
        notAheadOfTheLast();
        withinItsBounds();
        fewestStepsFromElsewhere();
        fewestStepsOnThePile();
        fewestCells();
        leastBits();
        theLastCell();
        whoeverStandsWhere();
        CHECK.end();
    }

    private static String lots(int... tonnesGrade) {
        StringBuilder text = new StringBuilder();
        for (int i = 0; i < tonnesGrade.length; i += 2) {
            text.append("lot ").append((char) ('a' + i / 2)).append(" tonnes ").append(tonnesGrade[i]);
            text.append(" grade ").append(tonnesGrade[i + 1]).append(";");
        }
        return text.toString();
    }

    private static void order(BlendYard x, int lots, int aim, int... want) {
        String call = "layOrder(" + lots + ", " + aim + ", ";
        for (int k = 0; k < want.length; k++) {
            CHECK.due(call + k + ")", x.layOrder(lots, aim, k), want[k]);
        }
        CHECK.due(call + want.length + ")", x.layOrder(lots, aim, want.length), -2);
    }

    private static void noOrder(BlendYard x, int lots, int aim) {
        for (int k : new int[] {0, 1, 5}) {
            CHECK.due("layOrder(" + lots + ", " + aim + ", " + k + ")", x.layOrder(lots, aim, k), -1);
        }
        CHECK.due("worst(" + lots + ", " + aim + ")", x.worst(lots, aim), -1);
    }

    private static void worst(BlendYard x, int lots, int aim, long above, long below) {
        CHECK.due("worst(" + lots + ", " + aim + ")", x.worst(lots, aim), above);
        CHECK.due("worstBelow()", x.worstBelow(), below);
    }

    private static void twoToSix() {
        CHECK.says(34, "NONE: not 2 to 6");
        BlendYard x = Check.yard(lots(1, 1, 1, 2, 1, 3, 1, 4, 1, 5, 1, 6, 1, 7, 1, 8, 1, 9, 1, 10, 1, 11, 1, 12));
        noOrder(x, 0, 5);
        for (int i = 0; i < 12; i++) {
            noOrder(x, 1 << i, 5);
        }
        for (int bits = 0; bits < 1 << 12; bits += 67) {
            int n = Integer.bitCount(bits);
            boolean can = n >= 2 && n <= 6;
            CHECK.due("layOrder of " + n, x.layOrder(bits, 5, 0) == -1, !can);
            CHECK.due("layOrder of " + n + ", behind the last one", x.layOrder(bits, 5, n), can ? -2 : -1);
            CHECK.due("layOrder of " + n + ", the last one", x.layOrder(bits, 5, n - 1) >= 0, can);
            CHECK.due("worst of " + n, x.worst(bits, 5) == -1, !can);
        }
        x = Check.yard(lots(1, 1, 1, 2, 1, 3, 1, 4, 1, 5, 1, 6, 1, 7, 1, 8, 1, 9, 1, 10, 1, 11, 1, 12));
        order(x, 0b11, 1, 0, 1);
        order(x, 0b110000000000, 11, 10, 11);
        order(x, 0b111111, 1, 0, 1, 2, 3, 4, 5);
        noOrder(x, 0b1111111, 1);
        noOrder(x, 0b111111111111, 1);
    }

    private static void noneSuch() {
        CHECK.says(34, "NONE: none such");
        BlendYard x = Check.yard(lots(1, 1, 1, 2, 1, 3));
        order(x, 0b111, 2, 1, 0, 2);
        for (int bits : new int[] {0b1001, 0b1011, 0b1111, 1 | 1 << 11, 1 | 1 << 12, 3 | 1 << 30, 1 | MIN, 3 | MIN, MIN, -1, MAX, 3 << 3}) {
            noOrder(x, bits, 2);
        }
        BlendYard all = Check.yard(lots(1, 1, 1, 2, 1, 3, 1, 4, 1, 5, 1, 6, 1, 7, 1, 8, 1, 9, 1, 10, 1, 11, 1, 12));
        noOrder(all, 1 | 1 << 12, 2);
        noOrder(all, 1 | 1 << 31, 2);
        noOrder(new BlendYard(), 3, 2);
        noOrder(new BlendYard(), 0, 2);
    }

    private static void anAimThatCannotBe() {
        CHECK.says(34, "NONE: an aim that can't be (a grade, 0 to 999)");
        BlendYard x = Check.yard(lots(10, 0, 10, 999));
        for (int aim : new int[] {-1, 1000, 1001, MIN, MAX}) {
            noOrder(x, 3, aim);
        }
        order(x, 3, 0, 0, 1);
        worst(x, 3, 0, 999, 2);
        order(x, 3, 999, 1, 0);
        worst(x, 3, 999, 999, 2);
    }

    private static void nothingIsLeft() {
        CHECK.says(34, "NONE: nothing of them is left (at least one must have some)");
        BlendYard x = Check.yard(lots(2, 10, 2, 20, 2, 30) + "pile p cells 2;");
        x.lay(0, 0, 0, 1, 1);
        order(x, 3, 10, 1);
        x.lay(0, 1, 0, 1, 1);
        noOrder(x, 3, 10);
        order(x, 7, 10, 2);
        order(x, 6, 10, 2);
        x.lay(0, 2, 0, 0, 1);
        order(x, 7, 10, 2);
        x.lay(0, 2, 0, 0, 1);
        noOrder(x, 7, 10);
        noOrder(x, 6, 10);
        x.undo();
        order(x, 7, 10, 2);
    }

    private static void countForNothing() {
        CHECK.says(34, "with all the tonnes that are left of each; those of which none are left count for nothing");
        BlendYard x = Check.yard(lots(10, 100, 5, 900, 10, 300) + "pile p cells 2;");
        worst(x, 7, 200, 140, 1);
        x.lay(0, 1, 0, 0, 4);
        // A tonne of b is left: a, b by 100 and 900, by 11 tonnes.
        order(x, 7, 200, 0, 1, 2);
        worst(x, 7, 200, 100, 1);
        x.lay(0, 1, 0, 0, 1);
        order(x, 7, 200, 0, 2);
        worst(x, 7, 200, 100, 1);
        order(x, 3, 200, 0);
        worst(x, 3, 200, 100, 1);
        order(x, 6, 900, 2);
        worst(x, 6, 900, 600, 1);
        CHECK.says(34, "2 to 6 are asked for, whatever is left of them");
        noOrder(x, 1, 200);
        BlendYard y = Check.yard(lots(1, 1, 1, 2, 1, 3, 1, 4, 1, 5, 1, 6, 1, 7) + "pile p cells 2;");
        y.lay(0, 0, 0, 0, 1);
        noOrder(y, 127, 5);
        order(y, 0b111111, 6, 3, 4, 2, 5, 1);
    }

    private static void notSoMany() {
        CHECK.says(34, "-2: not so many of which some is left, k below 0");
        BlendYard x = Check.yard(lots(2, 10, 2, 20, 2, 30) + "pile p cells 2;");
        for (int k : new int[] {3, 4, 6, 12, -1, -2, MIN, MAX}) {
            CHECK.due("layOrder(7, 20, " + k + ")", x.layOrder(7, 20, k), -2);
        }
        CHECK.due("layOrder(7, 20, 2)", x.layOrder(7, 20, 2), 2);
        x.lay(0, 2, 0, 1, 1);
        CHECK.due("layOrder(7, 20, 2), one has none left", x.layOrder(7, 20, 2), -2);
        CHECK.due("layOrder(7, 20, 1)", x.layOrder(7, 20, 1), 0);
        CHECK.due("layOrder(7, 20, -1)", x.layOrder(7, 20, -1), -2);
    }

    /** Of all orders the one with the least WORST, the first by numbers; told by trying all of them. */
    private static int[] tryAll(int[] tonnesGrade, int aim) {
        int n = tonnesGrade.length / 2;
        int[] best = new int[0];
        long bestUp = 0;
        long bestDown = 1;
        int orders = 1;
        for (int i = 0; i < n; i++) {
            orders *= n;
        }
        for (int code = 0; code < orders; code++) {
            int[] order = new int[n];
            int rest = code;
            int used = 0;
            for (int i = n - 1; i >= 0; i--) {
                order[i] = rest % n;
                rest /= n;
                used |= 1 << order[i];
            }
            if (used == (1 << n) - 1) {
                long up = 0;
                long down = 1;
                long ore = 0;
                long tonnes = 0;
                for (int lot : order) {
                    tonnes += tonnesGrade[2 * lot];
                    ore += (long) tonnesGrade[2 * lot] * tonnesGrade[2 * lot + 1];
                    long far = Math.abs(ore - aim * tonnes);
                    if (far * down > up * tonnes) {
                        up = far;
                        down = tonnes;
                    }
                }
                if (best.length == 0 || up * bestDown < bestUp * down) {
                    best = order;
                    bestUp = up;
                    bestDown = down;
                }
            }
        }
        return best;
    }

    private static void theLeastWorst() {
        CHECK.says(34, "the order with the least WORST, of like ones the first by LOTS' numbers");
        long seed = 11;
        for (int run = 0; run < 60; run++) {
            int[] told = new int[2 * (2 + run % 4)];
            for (int i = 0; i < told.length; i++) {
                seed = seed * 6364136223846793005L + 1442695040888963407L;
                int dice = (int) (seed >>> 40) & 0xffff;
                told[i] = i % 2 == 0 ? 1 + dice % 4 : run % 2 == 0 ? 100 * (dice % 4) : dice % 1000;
            }
            int aim = run % 3 == 0 ? 100 : run % 3 == 1 ? 150 : 500;
            order(Check.yard(lots(told)), (1 << told.length / 2) - 1, aim, tryAll(told, aim));
        }
        int[] six = {3, 100, 2, 300, 4, 200, 1, 999, 3, 0, 2, 200};
        order(Check.yard(lots(six)), 63, 200, tryAll(six, 200));
    }

    private static void fromTheFirstOnToAll() {
        CHECK.says(35, "the greatest of how far the GRADES of the first LOT, the first two, and so on, to all, are from the aim");
        // The first LOT decides, the first two, all of them.
        worst(Check.yard(lots(1, 90, 9, 100)), 3, 80, 19, 1);
        worst(Check.yard(lots(1, 90, 9, 100)), 3, 95, 5, 1);
        worst(Check.yard(lots(1, 50, 1, 80, 98, 50)), 7, 50, 3, 10);
        worst(Check.yard(lots(2, 10, 1, 40)), 3, 10, 10, 1);
        CHECK.says(35, "from the aim: above it, below it");
        worst(Check.yard(lots(1, 10, 1, 30)), 3, 20, 10, 1);
        order(Check.yard(lots(1, 10, 1, 30)), 3, 20, 0, 1);
        worst(Check.yard(lots(1, 10, 1, 31)), 3, 20, 10, 1);
        order(Check.yard(lots(1, 10, 1, 31)), 3, 20, 0, 1);
        worst(Check.yard(lots(1, 9, 1, 30)), 3, 20, 10, 1);
        order(Check.yard(lots(1, 9, 1, 30)), 3, 20, 1, 0);
        CHECK.says(35, "WORST of 0: above 0, below 1");
        worst(Check.yard(lots(7, 500, 9, 500)), 3, 500, 0, 1);
        worst(Check.yard(lots(9999, 999, 9999, 999, 9999, 999, 9999, 999, 9999, 999, 9999, 999)), 63, 999, 0, 1);
        CHECK.says(35, "long: the widest LOTS");
        worst(Check.yard(lots(9999, 999, 9999, 999, 9999, 999, 9999, 999, 9999, 999, 9998, 998)), 63, 0, 59923009, 59993);
    }

    private static void theFirstByNumbers() {
        CHECK.says(34, "of like ones the first by LOTS' numbers, one behind the other");
        order(Check.yard(lots(1, 5, 1, 5, 1, 5, 1, 5, 1, 5, 1, 5)), 63, 900, 0, 1, 2, 3, 4, 5);
        order(Check.yard(lots(1, 5, 1, 5, 1, 5, 1, 5)), 0b1010, 5, 1, 3);
        // c first; then a or b are both as far: the lesser number, though b would do as well.
        order(Check.yard(lots(4, 140, 4, 60, 4, 100)), 7, 100, 2, 0, 1);
        order(Check.yard(lots(4, 60, 4, 140, 4, 100)), 7, 100, 2, 0, 1);
        // The WORST is that of all: what comes ahead is free as long as it is no farther.
        order(Check.yard(lots(4, 120, 4, 130, 4, 100, 4, 90)), 0b1011, 100, 3, 0, 1);
        order(Check.yard(lots(4, 130, 4, 120, 4, 150)), 7, 120, 0, 1, 2);
        order(Check.yard(lots(4, 120, 4, 130, 4, 150)), 7, 150, 2, 0, 1);
    }

    private static void worstBelow() {
        CHECK.says(36, "What is below of the worst() told latest (1 at first)");
        CHECK.due("a new object", new BlendYard().worstBelow(), 1);
        BlendYard x = Check.yard(lots(1, 0, 2, 100, 4, 200) + "pile p cells 2;");
        CHECK.due("a new TEXT", x.worstBelow(), 1);
        noOrder(x, 8, 5);
        CHECK.due("none told", x.worstBelow(), 1);
        worst(x, 3, 0, 200, 3);
        worst(x, 7, 0, 1000, 7);
        x.worst(3, 1000);
        x.worst(1, 0);
        x.layOrder(5, 0, 0);
        x.lay(0, 1, 0, 1, 1);
        x.whole(0);
        x.spread(0);
        CHECK.due("worstBelow(), NONE and others tell none", x.worstBelow(), 7);
        CHECK.says(35, "in least terms");
        worst(Check.yard(lots(6, 100, 4, 200)), 3, 0, 140, 1);
        worst(Check.yard(lots(5, 100, 5, 201)), 3, 0, 301, 2);
    }

    private static void nextNone() {
        CHECK.says(37, "NONE: none such, t below 1 or above 99, an aim that can't be");
        BlendYard x = Check.yard(lots(9999, 5) + "pile p cells 12;pile q cells 2;");
        for (int w : WRONG) {
            CHECK.due("pile " + w, x.next(w, 1, 5), -1);
            CHECK.due("t " + w, x.next(0, w, 5), -1);
            CHECK.due("aim " + w, x.next(0, 1, w), -1);
        }
        CHECK.due("pile 2", x.next(2, 1, 5), -1);
        CHECK.due("pile 1", x.next(1, 1, 5), 0);
        CHECK.due("t 0", x.next(0, 0, 5), -1);
        CHECK.due("t 1", x.next(0, 1, 5), 0);
        CHECK.due("t 99", x.next(0, 99, 5), 0);
        CHECK.due("t 100", x.next(0, 100, 5), -1);
        CHECK.due("aim 1000", x.next(0, 1, 1000), -1);
        CHECK.due("aim 999", x.next(0, 1, 999), 0);
        CHECK.due("aim 0", x.next(0, 1, 0), 0);
        CHECK.due("no PILES", new BlendYard().next(0, 1, 0), -1);
    }

    private static void ofNoneIsEnough() {
        CHECK.says(37, "-2: of none is enough left");
        BlendYard x = Check.yard(lots(36, 5, 35, 6) + "pile p cells 12;pile q cells 2;");
        CHECK.due("36 of 36", x.next(0, 3, 999), 0);
        CHECK.due("24 of 36 and 35", x.next(0, 2, 999), 1);
        CHECK.due("48 of 36", x.next(0, 4, 999), -2);
        CHECK.due("36 of 36, on 2 CELLS", x.next(1, 18, 999), 0);
        CHECK.due("34 of 35, on 2 CELLS", x.next(1, 17, 999), 1);
        CHECK.due("38 of 36, on 2 CELLS", x.next(1, 19, 999), -2);
        x.lay(1, 0, 0, 0, 1);
        CHECK.due("36 of 35", x.next(0, 3, 999), -2);
        CHECK.due("no LOTS", Check.yard("pile p cells 2;").next(0, 1, 0), -2);
        BlendYard y = Check.yard(lots(1, 1, 1, 2, 1, 3, 1, 4, 1, 5, 1, 6, 1, 7, 1, 8, 1, 9, 1, 10, 1, 11, 2, 12) + "pile p cells 2;");
        CHECK.due("of the twelfth one alone", y.next(0, 1, 0), 11);
        CHECK.due("of none of twelve", y.next(0, 2, 0), -2);
        Check.tell(y, "pile p cells 2;");
        CHECK.due("of none of the TEXT ahead", y.next(0, 1, 0), -2);
        Check.tell(y, "pile p cells 2;");
        CHECK.due("of none of the TEXT ahead of it", y.next(0, 1, 0), -2);
    }

    private static void nearest() {
        CHECK.says(37, "brings the PILE's GRADE nearest to the aim, of like ones the first");
        BlendYard x = Check.yard(lots(99, 400, 99, 600, 99, 500, 99, 500) + "pile p cells 2;");
        CHECK.due("aim 500", x.next(0, 1, 500), 2);
        CHECK.due("aim 450, 400 and 500 are as far", x.next(0, 1, 450), 0);
        CHECK.due("aim 451", x.next(0, 1, 451), 2);
        CHECK.due("aim 449", x.next(0, 1, 449), 0);
        CHECK.due("aim 550, 600 and 500 are as far", x.next(0, 1, 550), 1);
        CHECK.due("aim 0", x.next(0, 1, 0), 0);
        CHECK.due("aim 999", x.next(0, 1, 999), 1);
        x.lay(0, 0, 0, 1, 10);
        CHECK.due("the PILE's GRADE counts: 400 lies there, aim 500", x.next(0, 10, 500), 1);
        CHECK.due("aim 425", x.next(0, 10, 425), 0);
        CHECK.due("aim 426", x.next(0, 10, 426), 2);
        x.lay(0, 1, 0, 0, 20);
        CHECK.due("on one CELL alone it counts, too", x.next(0, 20, 500), 2);
    }

    private static void whereverMachinesStand() {
        CHECK.says(37, "wherever machines stand, however many LAYERS there are");
        BlendYard x = Check.yard(lots(99, 5, 99, 6) + "pile p cells 2;ship s needs 99 low 0 high 9 due 1 load 1;gap 3;");
        for (int i = 0; i < 60; i++) {
            x.lay(0, 1, 0, 0, 1);
        }
        x.park(0);
        x.cut(0, 0, 0);
        CHECK.due("whyLay", x.whyLay(0, 0, 0, 1, 9), 4);
        CHECK.due("next", x.next(0, 9, 0), 0);
        CHECK.due("next", x.next(0, 9, 9), 1);
        x.park(1);
        CHECK.due("whyLay", x.whyLay(0, 0, 0, 1, 9), 5);
        CHECK.due("next", x.next(0, 9, 9), 1);
        CHECK.due("count(8), it is but a thought", x.count(8), 12);
        CHECK.due("lot(1, 2)", x.lot(1, 2), 39);
    }

    private static void way(BlendYard x, int ship, int pile, int steps, int cells, int tonnes) {
        int[] want = {steps, cells, tonnes};
        for (int what = 0; what < 3; what++) {
            CHECK.due("way(" + ship + ", " + pile + ", " + what + ")", x.way(ship, pile, what), want[what]);
        }
    }

    private static void noWays(BlendYard x, int ship, int pile) {
        way(x, ship, pile, -2, -2, -2);
    }

    private static final String SHIPS = "pile p cells 12;pile q cells 12;gap 0;ship s needs 20 low 0 high 999 due 5 load 2;"
        + "ship t needs 1 low 0 high 999 due 5 load 2;ship u needs 999 low 0 high 999 due 5 load 2;";

    /** A yard on whose first PILE these tonnes lie, by CELLS, of one LOT; nobody stands there. */
    private static BlendYard lying(int... tonnes) {
        BlendYard x = Check.yard(lots(999, 100, 999, 400) + SHIPS);
        for (int cell = 0; cell < tonnes.length; cell++) {
            if (tonnes[cell] > 0) {
                x.lay(0, 0, cell, cell, tonnes[cell]);
            }
        }
        x.park(0);
        return x;
    }

    /** The TAKER goes to a CELL by an ORDER that is not done yet, so that what lies there stays. */
    private static BlendYard from(int cell, BlendYard x) {
        x.toCut(0, cell, 2);
        x.minutes(10);
        CHECK.due("stands(1)", x.stands(1), cell);
        return x;
    }

    private static void wayNone() {
        CHECK.says(38, "NONE: others, none such");
        BlendYard x = lying(20, 20);
        for (int w : WRONG) {
            CHECK.due("ship " + w, x.way(w, 0, 0), -1);
            CHECK.due("pile " + w, x.way(0, w, 0), -1);
            CHECK.due("what " + w, x.way(0, 0, w), -1);
        }
        CHECK.due("ship 3", x.way(3, 0, 0), -1);
        CHECK.due("ship 2", x.way(2, 0, 0), -2);
        CHECK.due("pile 2", x.way(0, 2, 0), -1);
        CHECK.due("pile 1", x.way(0, 1, 0), -2);
        CHECK.due("what 3", x.way(0, 0, 3), -1);
        CHECK.due("what 2", x.way(0, 0, 2), 20);
        CHECK.due("no SHIPS, no PILES", new BlendYard().way(0, 0, 0), -1);
    }

    private static void wayNoShip() {
        CHECK.says(38, "NONE: it sailed, is FULL (which has not sailed, is not FULL)");
        BlendYard x = lying(19, 1, 1, 20);
        x.cut(0, 0, 0);
        way(x, 0, 0, 1, 0b10, 20);
        x.cut(0, 1, 0);
        for (int what = 0; what < 3; what++) {
            CHECK.due("FULL, what " + what, x.way(0, 0, what), -1);
        }
        x.sail(0);
        for (int what = 0; what < 3; what++) {
            CHECK.due("it sailed, what " + what, x.way(0, 0, what), -1);
        }
        way(x, 1, 0, 1, 0b100, 1);
    }

    private static void noWay() {
        CHECK.says(38, "-2: none");
        BlendYard x = lying();
        noWays(x, 0, 0);
        noWays(lying(10, 9), 0, 0);
        way(lying(10, 10), 0, 0, 11, 0b11, 20);
        noWays(lying(0, 0, 0, 0, 0, 0, 0, 0, 0, 0, 0, 19), 0, 0);
        way(lying(0, 0, 0, 0, 0, 0, 0, 0, 0, 0, 0, 20), 0, 0, 10, 1 << 11, 20);
        way(lying(1, 1, 1, 1, 1, 1, 1, 1, 1, 1, 1, 9), 0, 0, 21, 0xfff, 20);
        noWays(lying(1, 1, 1, 1, 1, 1, 1, 1, 1, 1, 1, 8), 0, 0);
        noWays(lying(20, 20), 0, 1);
    }

    private static void notAheadOfTheLast() {
        CHECK.says(38, "the SHIP gets FULL not ahead of the last one: all but the last one are less than it needs still");
        // From NOWHERE the highest one is the last: 19 ahead of it is less than 20, 20 is not.
        way(lying(19, 20), 0, 0, 10, 0b10, 20);
        way(lying(19, 1), 0, 0, 11, 0b11, 20);
        way(lying(19, 0, 1), 0, 0, 12, 0b101, 20);
        way(lying(20, 1), 0, 0, 10, 0b01, 20);
        way(lying(20, 19), 0, 0, 10, 0b01, 20);
        CHECK.says(38, "its GRADE needs more, but then it would be FULL ahead of the last one");
        BlendYard x = Check.yard("lot a tonnes 999 grade 100;lot b tonnes 999 grade 300;pile p cells 12;"
            + "ship s needs 20 low 150 high 250 due 5 load 2;");
        x.lay(0, 0, 0, 0, 20);
        x.lay(0, 1, 1, 1, 20);
        x.park(0);
        noWays(x, 0, 0);
        BlendYard y = Check.yard("lot a tonnes 999 grade 100;lot b tonnes 999 grade 300;pile p cells 12;"
            + "ship s needs 20 low 150 high 250 due 5 load 2;");
        y.lay(0, 0, 0, 0, 19);
        y.lay(0, 1, 1, 1, 20);
        y.park(0);
        way(y, 0, 0, 11, 0b11, 39);
        CHECK.says(38, "what is in the hold counts");
        BlendYard z = lying(5, 0, 14, 15);
        z.cut(0, 0, 0);
        way(z, 0, 0, 3, 0b1000, 20);
    }

    private static void withinItsBounds() {
        CHECK.says(38, "its GRADE is within its bounds then (not below low, not above high)");
        for (int low = 199; low <= 201; low++) {
            BlendYard x = Check.yard("lot a tonnes 999 grade 100;lot b tonnes 999 grade 300;pile p cells 12;"
                + "ship s needs 20 low " + low + " high 999 due 5 load 2;ship t needs 20 low 0 high " + low + " due 5 load 2;");
            x.lay(0, 0, 0, 0, 10);
            x.lay(0, 1, 1, 1, 10);
            x.park(0);
            way(x, 0, 0, low <= 200 ? 11 : -2, low <= 200 ? 3 : -2, low <= 200 ? 20 : -2);
            way(x, 1, 0, low >= 200 ? 11 : -2, low >= 200 ? 3 : -2, low >= 200 ? 20 : -2);
        }
        CHECK.says(38, "its GRADE: of what is in the hold, too");
        BlendYard x = Check.yard("lot a tonnes 999 grade 100;lot b tonnes 999 grade 300;pile p cells 12;"
            + "ship s needs 20 low 200 high 200 due 5 load 2;");
        x.lay(0, 0, 0, 2, 10);
        x.lay(0, 1, 3, 3, 10);
        x.park(0);
        x.cut(0, 0, 0);
        way(x, 0, 0, 3, 0b1000, 20);
    }

    private static void fewestStepsFromElsewhere() {
        CHECK.says(38, "From NOWHERE, another PILE: 10, and from the lowest of these CELLS to the highest one");
        way(lying(20), 0, 0, 10, 1, 20);
        way(lying(10, 0, 0, 0, 0, 0, 0, 0, 0, 0, 0, 10), 0, 0, 21, 1 << 11 | 1, 20);
        way(lying(12, 0, 0, 9, 0, 11), 0, 0, 12, 0b101000, 20);
        BlendYard x = lying(12, 0, 0, 9, 0, 11);
        x.lay(1, 0, 5, 5, 1);
        x.park(0);
        x.cut(1, 5, 2);
        CHECK.due("stands(1)", x.stands(1), 105);
        way(x, 0, 0, 12, 0b101000, 20);
    }

    private static void fewestStepsOnThePile() {
        CHECK.says(38, "On the PILE: to the nearer end of them, then to the other one; the less");
        int[] piles = {10, 0, 0, 0, 10, 1, 1, 1};
        int[] steps = {4, 5, 6, 5, 4, 5, 6, 7};
        for (int at = 0; at < 8; at++) {
            int[] tonnes = piles.clone();
            BlendYard x = lying(tonnes);
            way(from(at, x), 0, 0, steps[at], 0b10001, 20);
        }
        CHECK.says(38, "On the PILE: of one CELL as many as it is off");
        for (int at = 0; at < 8; at++) {
            BlendYard x = lying(0, 0, 0, 20);
            way(from(at, x), 0, 0, Math.abs(at - 3), 0b1000, 20);
        }
        CHECK.says(38, "those for which the TAKER needs the fewest STEPS (from where it is)");
        for (int at = 0; at < 9; at++) {
            BlendYard x = lying(20, 0, 0, 0, 0, 0, 0, 0, 21);
            way(from(at, x), 0, 0, Math.min(at, 8 - at), at <= 4 ? 1 : 1 << 8, at <= 4 ? 20 : 21);
        }
    }

    private static void fewestCells() {
        CHECK.says(38, "of like ones the fewest CELLS");
        way(lying(9, 1, 1, 17), 0, 0, 13, 0b1001, 26);
        way(lying(9, 1, 1, 10), 0, 0, 13, 0b1011, 20);
        way(lying(10, 5, 5, 10), 0, 0, 12, 0b0111, 20);
        // From 0: two CELLS of 0, 1, 2 have two STEPS if 2 is one of them.
        way(from(0, lying(9, 9, 11)), 0, 0, 2, 0b101, 20);
    }

    private static void leastBits() {
        CHECK.says(38, "of like ones the least as bits");
        way(lying(10, 10, 10, 10), 0, 0, 11, 0b0011, 20);
        way(lying(20, 20, 20), 0, 0, 10, 0b001, 20);
        way(lying(9, 10, 1, 9), 0, 0, 12, 0b0111, 20);
        way(lying(9, 10, 1, 10), 0, 0, 12, 0b1010, 20);
        way(from(2, lying(0, 20, 0, 20)), 0, 0, 1, 0b0010, 20);
        way(from(1, lying(20, 0, 20)), 0, 0, 1, 0b001, 20);
        way(from(5, lying(0, 0, 0, 0, 0, 20, 20)), 0, 0, 0, 1 << 5, 20);
    }

    private static void theLastCell() {
        CHECK.says(38, "The last CELL: of both ends that at which it stops");
        way(from(0, lying(5, 0, 0, 20)), 0, 0, 3, 0b1000, 20);
        // 20 at 0 and 19 at 3, both for the GRADE: 0 must be the last one, as 20 alone would be FULL already.
        BlendYard x = Check.yard("lot a tonnes 999 grade 100;lot b tonnes 999 grade 300;pile p cells 6;gap 0;"
            + "ship s needs 20 low 150 high 250 due 5 load 2;ship t needs 999 low 0 high 999 due 5 load 2;");
        x.lay(0, 0, 0, 0, 20);
        x.lay(0, 1, 3, 3, 19);
        x.park(0);
        x.toCut(0, 3, 1);
        x.minutes(10);
        way(x, 0, 0, 3, 0b1001, 39);
        x.park(1);
        noWays(x, 0, 0);
        x.drop(1);
        x.toCut(0, 0, 1);
        x.minutes(10);
        CHECK.due("stands(1)", x.stands(1), 0);
        noWays(x, 0, 0);
        x.park(1);
        x.drop(1);
        x.toCut(0, 1, 1);
        x.minutes(10);
        noWays(x, 0, 0);
        x.park(1);
        x.drop(1);
        x.toCut(0, 2, 1);
        x.minutes(10);
        way(x, 0, 0, 4, 0b1001, 39);
        CHECK.says(38, "The last CELL: of like ones the highest one");
        for (int low = 0; low < 2; low++) {
            BlendYard y = Check.yard("lot a tonnes 999 grade 100;lot b tonnes 999 grade 300;pile p cells 6;gap 0;"
                + "ship s needs 20 low 150 high 250 due 5 load 2;ship t needs 999 low 0 high 999 due 5 load 2;");
            y.lay(0, 0, 1, 1, low == 1 ? 20 : 19);
            y.lay(0, 1, 3, 3, low == 1 ? 19 : 20);
            y.park(0);
            y.toCut(0, 2, 1);
            y.minutes(10);
            CHECK.due("stands(1)", y.stands(1), 2);
            // As far from 1 as from 3: it stops at 3, so that 1 comes first.
            way(y, 0, 0, low == 1 ? -2 : 3, low == 1 ? -2 : 0b1010, low == 1 ? -2 : 39);
        }
    }

    private static void whoeverStandsWhere() {
        CHECK.says(38, "whoever stands where is of no matter");
        BlendYard x = lying(0, 0, 0, 0, 20);
        x.lay(0, 1, 2, 2, 1);
        x.lay(0, 1, 4, 4, 1);
        CHECK.due("whyCut", x.whyCut(0, 4, 0), 4);
        way(x, 0, 0, 10, 0b10000, 21);
        x.park(0);
        x.cut(0, 2, 2);
        x.lay(0, 1, 3, 3, 1);
        way(x, 0, 0, 2, 0b10000, 21);
        CHECK.says(38, "nothing is done by it");
        int held = x.count(8);
        CHECK.due("what 2", x.way(0, 0, 2), 21);
        CHECK.due("count(8)", x.count(8), held);
        CHECK.due("count(7)", x.count(7), 10);
        CHECK.due("stands(1)", x.stands(1), 2);
        CHECK.due("ship(0, 6)", x.ship(0, 6), 0);
        CHECK.due("pile(0, 2)", x.pile(0, 2), 22);
    }
}
