/** Promises 6, 17, 18 and 39 to 42: each sentence that names an edge of DAYS, of SHIPS that sail, of the PLAN. */
public final class EdgeShipTest {
    private static final Check CHECK = new Check("EdgeShipTest");
    private static final int MIN = Integer.MIN_VALUE;
    private static final int MAX = Integer.MAX_VALUE;

    public static void main(String[] args) {
        oneTo99();
        toDay999();
        sailNoneSuch();
        sailOnce();
        sailFull();
        sailWithinBounds();
        late();
        lateShips();
        fineForEach();
        inTime();
        fromThisDay();
        fewest();
        fewestOfEight();
        orderOthers();
        byDue();
        thenTheOthers();
        longestLoad();
        greatestNumber();
        readyNone();
        costOthers();
        costNow();
        costByOrder();
        CHECK.end();
    }

    /** SHIPS that need 1 tonne each, by due, load, fine, and ore for all of them. */
    private static BlendYard ships(int[]... told) {
        StringBuilder text = new StringBuilder("lot a tonnes 99 grade 5;pile p cells 8;gap 0;");
        for (int i = 0; i < told.length; i++) {
            text.append("ship s").append((char) ('a' + i)).append(" needs 1 low 0 high 9 due ").append(told[i][0]);
            text.append(" load ").append(told[i][1]).append(" fine ").append(told[i][2]).append(";");
        }
        return Check.yard(text.toString());
    }

    private static int[] ship(int due, int load, int fine) {
        return new int[] {due, load, fine};
    }

    private static int sailed(BlendYard x, int ship) {
        x.park(1);
        x.lay(0, 0, ship, ship, 1);
        x.park(0);
        x.cut(0, ship, ship);
        return x.sail(ship);
    }

    private static void plans(BlendYard x, int fewest, int... order) {
        CHECK.due("fewest()", x.fewest(), fewest);
        CHECK.due("order(NONE)", x.order(BlendYard.NONE), order.length);
        for (int k = 0; k < order.length; k++) {
            CHECK.due("order(" + k + ")", x.order(k), order[k]);
        }
        CHECK.due("order(" + order.length + ")", x.order(order.length), -2);
    }

    private static void oneTo99() {
        CHECK.says(18, "DAYS go by (1 to 99): DAY then; NONE: others");
        BlendYard x = new BlendYard();
        for (int n : new int[] {0, -1, -99, 100, 101, MIN, MAX}) {
            CHECK.due("days(" + n + ")", x.days(n), -1);
        }
        CHECK.due("count(4)", x.count(4), 0);
        CHECK.due("count(8)", x.count(8), 0);
        CHECK.due("days(1)", x.days(1), 1);
        CHECK.due("days(99)", x.days(99), 100);
        CHECK.due("days(98)", x.days(98), 198);
        CHECK.due("days(2)", x.days(2), 200);
        CHECK.due("count(4)", x.count(4), 200);
    }

    private static void toDay999() {
        CHECK.says(18, "to DAY 999; NONE: others");
        BlendYard x = new BlendYard();
        for (int i = 1; i <= 10; i++) {
            CHECK.due("days(99)", x.days(99), 99 * i);
        }
        for (int n : new int[] {10, 11, 99, MAX}) {
            CHECK.due("days(" + n + ") from DAY 990", x.days(n), -1);
            CHECK.due("count(4)", x.count(4), 990);
        }
        CHECK.due("days(8) from DAY 990", x.days(8), 998);
        CHECK.due("days(2) from DAY 998", x.days(2), -1);
        CHECK.due("days(1) from DAY 998", x.days(1), 999);
        CHECK.due("days(1) from DAY 999", x.days(1), -1);
        CHECK.due("count(4)", x.count(4), 999);
        CHECK.due("undo()", x.undo(), 11);
        CHECK.due("days(1) from DAY 998 again", x.days(1), 999);
        x.undo();
        x.undo();
        CHECK.due("days(9) from DAY 990", x.days(9), 999);
    }

    private static void sailNoneSuch() {
        CHECK.says(17, "NONE: none such");
        BlendYard x = ships(ship(1, 1, 1), ship(1, 1, 1));
        for (int w : new int[] {-1, 2, 7, 8, MIN, MAX}) {
            CHECK.due("sail(" + w + ")", x.sail(w), -1);
        }
        CHECK.due("count(5)", x.count(5), 0);
    }

    private static void sailOnce() {
        CHECK.says(17, "NONE: it sailed");
        BlendYard x = ships(ship(1, 1, 1), ship(1, 1, 1));
        CHECK.due("sail(1)", sailed(x, 1), 0);
        CHECK.due("sail(1) again", x.sail(1), -1);
        x.days(5);
        CHECK.due("sail(1) on a later DAY", x.sail(1), -1);
        CHECK.due("ship(1, 7)", x.ship(1, 7), 0);
        CHECK.due("count(5)", x.count(5), 1);
        CHECK.due("sail(0)", sailed(x, 0), 4);
        CHECK.due("count(5)", x.count(5), 2);
    }

    private static void sailFull() {
        CHECK.says(17, "NONE: is not FULL; FULL, if its hold has the tonnes that it needs or more");
        for (int tonnes = 0; tonnes <= 12; tonnes++) {
            BlendYard x = Check.yard("lot a tonnes 99 grade 5;pile p cells 8;ship s needs 10 low 0 high 9 due 1 load 1;");
            if (tonnes > 0) {
                x.lay(0, 0, 0, 0, tonnes);
                x.park(0);
                x.cut(0, 0, 0);
            }
            int held = x.count(8);
            CHECK.due("sail(0) with " + tonnes + " of 10", x.sail(0), tonnes < 10 ? -1 : 0);
            CHECK.due("ship(0, 7)", x.ship(0, 7), tonnes < 10 ? -1 : 0);
            CHECK.due("count(8)", x.count(8), tonnes < 10 ? held : held + 1);
        }
    }

    private static void sailWithinBounds() {
        CHECK.says(17, "NONE: its GRADE is not within its bounds (not below low, not above high)");
        int[][] bounds = {{0, 999}, {5, 5}, {5, 999}, {0, 5}, {6, 999}, {0, 4}, {6, 6}, {4, 4}, {0, 0}, {999, 999}};
        for (int[] b : bounds) {
            BlendYard x = Check.yard("lot a tonnes 99 grade 5;pile p cells 8;ship s needs 10 low " + b[0] + " high " + b[1]
                + " due 1 load 1;");
            x.lay(0, 0, 0, 0, 11);
            x.park(0);
            x.cut(0, 0, 0);
            boolean in = b[0] <= 5 && b[1] >= 5;
            int held = x.count(8);
            CHECK.due("sail(0) of 5 within " + b[0] + " to " + b[1], x.sail(0), in ? 0 : -1);
            CHECK.due("count(5)", x.count(5), in ? 1 : 0);
            CHECK.due("count(8)", x.count(8), in ? held + 1 : held);
        }
        CHECK.says(17, "its GRADE as a FRACTION: just below low, just above high");
        for (int more = 0; more < 2; more++) {
            for (int bound = 499; bound <= 501; bound++) {
                for (int high = 0; high < 2; high++) {
                    BlendYard x = Check.yard("lot a tonnes 999 grade 500;lot b tonnes 99 grade " + (more == 1 ? 501 : 499)
                        + ";pile p cells 8;ship s needs 10 low " + (high == 1 ? 0 : bound) + " high " + (high == 1 ? bound : 999)
                        + " due 1 load 1;");
                    for (int i = 0; i < 9; i++) {
                        x.lay(0, 0, 0, 0, 99);
                    }
                    x.lay(0, 1, 0, 0, 1);
                    x.park(0);
                    x.cut(0, 0, 0);
                    boolean in = more == 1 ? (high == 1 ? bound >= 501 : bound <= 500) : (high == 1 ? bound >= 500 : bound <= 499);
                    CHECK.due("sail(0), " + (high == 1 ? "high " : "low ") + bound + ", 500 and " + (more == 1 ? "a bit" : "less a bit"),
                        x.sail(0), in ? 0 : -1);
                }
            }
        }
    }

    private static void late() {
        CHECK.says(6, "LATE: how many DAYS behind due it sailed (0: not behind it)");
        for (int day = 0; day <= 5; day++) {
            BlendYard x = ships(ship(3, 1, 7));
            if (day > 0) {
                x.days(day);
            }
            CHECK.due("sail(0) on DAY " + day + ", due 3", sailed(x, 0), Math.max(0, day - 3));
            CHECK.due("ship(0, 8)", x.ship(0, 8), Math.max(0, day - 3));
            x.days(9);
            CHECK.due("ship(0, 8), nine DAYS later", x.ship(0, 8), Math.max(0, day - 3));
            CHECK.due("ship(0, 7)", x.ship(0, 7), day);
        }
        CHECK.says(6, "one that did not sail yet: how many DAYS due is over");
        BlendYard x = ships(ship(3, 1, 7));
        for (int day = 0; day <= 5; day++) {
            CHECK.due("ship(0, 8) on DAY " + day, x.ship(0, 8), Math.max(0, day - 3));
            CHECK.due("ship(0, 7)", x.ship(0, 7), -1);
            x.days(1);
        }
    }

    private static void lateShips() {
        CHECK.says(4, "11: LATE SHIPS now");
        BlendYard x = ships(ship(1, 1, 0), ship(2, 1, 9), ship(3, 1, 9));
        int[] want = {0, 0, 1, 2, 3, 3};
        for (int day = 0; day < want.length; day++) {
            CHECK.due("count(11) on DAY " + day, x.count(11), want[day]);
            x.days(1);
        }
        BlendYard y = ships(ship(1, 1, 0), ship(2, 1, 9), ship(3, 1, 9));
        y.days(2);
        sailed(y, 0);
        sailed(y, 1);
        y.days(1);
        CHECK.due("count(11), one sailed LATE, one in time, one is due", y.count(11), 1);
        y.days(1);
        CHECK.due("count(11), a DAY later", y.count(11), 2);
    }

    private static void fineForEach() {
        CHECK.says(6, "It costs its fine for each");
        BlendYard x = ships(ship(1, 1, 999), ship(1, 1, 0), ship(99, 1, 5));
        x.days(1);
        CHECK.due("ship(0, 9), not LATE", x.ship(0, 9), 0);
        x.days(1);
        CHECK.due("ship(0, 9), a DAY", x.ship(0, 9), 999);
        CHECK.due("ship(1, 9), fine 0", x.ship(1, 9), 0);
        x.days(1);
        sailed(x, 0);
        x.days(1);
        CHECK.due("ship(0, 9), it sailed two DAYS LATE", x.ship(0, 9), 2 * 999);
        for (int i = 0; i < 10; i++) {
            x.days(99);
        }
        CHECK.due("ship(0, 9)", x.ship(0, 9), 2 * 999);
        CHECK.due("ship(1, 8) on DAY 994", x.ship(1, 8), 993);
        CHECK.due("ship(2, 9) on DAY 994", x.ship(2, 9), (994 - 99) * 5);
    }

    private static void inTime() {
        CHECK.says(39, "one is in time, if its last DAY is not above due (the first one's last DAY: this DAY, and load less 1)");
        for (int load = 1; load <= 20; load++) {
            for (int due = Math.max(1, load - 2); due <= load; due++) {
                BlendYard x = ships(ship(due, load, 1));
                CHECK.due("fewest(), load " + load + ", due " + due, x.fewest(), load - 1 > due ? 1 : 0);
                CHECK.due("ready(0)", x.ready(0), load - 1);
            }
        }
        CHECK.says(39, "one behind the other");
        BlendYard x = ships(ship(2, 3, 1), ship(4, 2, 1), ship(5, 1, 1));
        plans(x, 0, 0, 1, 2);
        CHECK.due("ready(0)", x.ready(0), 2);
        CHECK.due("ready(1)", x.ready(1), 4);
        CHECK.due("ready(2)", x.ready(2), 5);
        plans(ships(ship(2, 3, 1), ship(4, 2, 1), ship(4, 1, 1)), 1, 1, 2, 0);
    }

    private static void fromThisDay() {
        CHECK.says(39, "from this DAY on");
        BlendYard x = ships(ship(5, 4, 1), ship(9, 4, 1));
        int[] late = {0, 0, 0, 1, 1, 1, 1, 2};
        int[] first = {0, 0, 0, 1, 1, 1, 1, 0};
        for (int day = 0; day < late.length; day++) {
            CHECK.due("fewest() on DAY " + day, x.fewest(), late[day]);
            CHECK.due("order(0) on DAY " + day, x.order(0), first[day]);
            CHECK.due("ready() of the first one", x.ready(x.order(0)), day + 3);
            CHECK.due("ready() of the second one", x.ready(x.order(1)), day + 7);
            x.days(1);
        }
    }

    private static void fewest() {
        CHECK.says(39, "FEWEST: no SHIPS, none that did not sail");
        CHECK.due("a new object", new BlendYard().fewest(), 0);
        BlendYard x = ships(ship(1, 20, 1));
        CHECK.due("one that can't be in time", x.fewest(), 1);
        sailed(x, 0);
        CHECK.due("it sailed", x.fewest(), 0);
        plans(x, 0);
        CHECK.says(39, "the least number of those that aren't in time, by all orders");
        CHECK.due("a long one for two short ones", ships(ship(6, 7, 1), ship(7, 3, 1), ship(8, 3, 1)).fewest(), 1);
        CHECK.due("all over", ships(ship(1, 3, 1), ship(1, 3, 1), ship(1, 3, 1)).fewest(), 3);
        CHECK.due("but one", ships(ship(1, 2, 1), ship(1, 2, 1), ship(1, 2, 1)).fewest(), 2);
    }

    /** The least number by trying all orders of the SHIPS that are left. */
    private static int leastLate(int[][] told, int taken, int day) {
        int least = told.length;
        boolean all = true;
        for (int i = 0; i < told.length; i++) {
            if ((taken >> i & 1) == 0) {
                all = false;
                int last = day + told[i][1] - 1;
                int late = last > told[i][0] ? 1 : 0;
                least = Math.min(least, late + leastLate(told, taken | 1 << i, last + 1));
            }
        }
        return all ? 0 : least;
    }

    private static void fewestOfEight() {
        CHECK.says(39, "by all orders (8 SHIPS)");
        long seed = 4;
        for (int run = 0; run < 12; run++) {
            int[][] told = new int[5 + run % 2][];
            for (int i = 0; i < told.length; i++) {
                seed = seed * 6364136223846793005L + 1442695040888963407L;
                told[i] = ship(1 + (int) (seed >>> 40) % 20, 1 + (int) (seed >>> 50) % 8, 1);
            }
            CHECK.due("run " + run, ships(told).fewest(), leastLate(told, 0, 0));
        }
        int[][] eight = {ship(20, 8, 1), ship(9, 5, 1), ship(4, 5, 1), ship(14, 7, 1), ship(11, 2, 1), ship(3, 3, 1), ship(19, 4, 1),
            ship(9, 6, 1)};
        CHECK.due("eight", ships(eight).fewest(), leastLate(eight, 0, 0));
        plans(ships(eight), leastLate(eight, 0, 0), 5, 1, 4, 6, 0, 2, 3, 7);
    }

    private static void orderOthers() {
        CHECK.says(40, "how many (k NONE); -2: not so many, others");
        BlendYard none = new BlendYard();
        CHECK.due("order(NONE), no SHIPS", none.order(-1), 0);
        CHECK.due("order(0), no SHIPS", none.order(0), -2);
        BlendYard x = ships(ship(1, 1, 1), ship(2, 1, 1), ship(3, 1, 1));
        CHECK.due("order(NONE)", x.order(-1), 3);
        CHECK.due("order(2)", x.order(2), 2);
        for (int k : new int[] {3, 4, 8, -2, -3, MIN, MAX}) {
            CHECK.due("order(" + k + ")", x.order(k), -2);
        }
        CHECK.says(40, "SHIPS that did not sail yet");
        sailed(x, 1);
        plans(x, 0, 0, 2);
        CHECK.due("order(2)", x.order(2), -2);
        sailed(x, 0);
        plans(x, 0, 2);
        sailed(x, 2);
        plans(x, 0);
    }

    private static void byDue() {
        CHECK.says(40, "first those in time by due, of like ones by numbers");
        plans(ships(ship(9, 1, 1), ship(8, 1, 1), ship(7, 1, 1)), 0, 2, 1, 0);
        plans(ships(ship(9, 3, 1), ship(9, 2, 1), ship(9, 1, 1)), 0, 0, 1, 2);
        plans(ships(ship(9, 1, 1), ship(5, 1, 1), ship(9, 1, 1), ship(5, 1, 1)), 0, 1, 3, 0, 2);
    }

    private static void thenTheOthers() {
        CHECK.says(40, "then the others by numbers");
        plans(ships(ship(3, 20, 1), ship(2, 20, 1), ship(1, 20, 1)), 3, 0, 1, 2);
        plans(ships(ship(3, 20, 1), ship(9, 1, 1), ship(1, 20, 1)), 2, 1, 0, 2);
        // Put off in the order 2, 0, but told by numbers.
        plans(ships(ship(8, 9, 1), ship(9, 1, 1), ship(2, 9, 1), ship(9, 7, 1)), 2, 1, 3, 0, 2);
    }

    private static void longestLoad() {
        CHECK.says(40, "of those taken so far the one with the longest load is put off: the one taken last, too");
        plans(ships(ship(2, 2, 1), ship(3, 3, 1)), 1, 0, 1);
        CHECK.says(40, "the one with the longest load: one taken ahead of it");
        plans(ships(ship(3, 4, 1), ship(4, 2, 1)), 1, 1, 0);
        CHECK.says(40, "whenever one would not be in time: one put off is not put off again");
        plans(ships(ship(4, 5, 1), ship(5, 4, 1), ship(6, 3, 1), ship(6, 3, 1)), 2, 2, 3, 0, 1);
        CHECK.says(40, "in time up to due: none is put off");
        plans(ships(ship(4, 5, 1), ship(6, 2, 1)), 0, 0, 1);
        plans(ships(ship(4, 5, 1), ship(5, 2, 1)), 1, 1, 0);
    }

    private static void greatestNumber() {
        CHECK.says(40, "of like ones the one with the greatest number, is put off");
        plans(ships(ship(4, 4, 1), ship(5, 4, 1)), 1, 0, 1);
        plans(ships(ship(5, 4, 1), ship(4, 4, 1)), 1, 0, 1);
        plans(ships(ship(5, 4, 1), ship(4, 4, 1), ship(7, 1, 1)), 1, 0, 2, 1);
        plans(ships(ship(3, 3, 1), ship(9, 2, 1), ship(2, 3, 1)), 1, 0, 1, 2);
    }

    private static void readyNone() {
        CHECK.says(41, "-2: it sailed; NONE: none such");
        BlendYard x = ships(ship(1, 3, 1), ship(5, 4, 1));
        for (int w : new int[] {-1, 2, 8, MIN, MAX}) {
            CHECK.due("ready(" + w + ")", x.ready(w), -1);
        }
        CHECK.due("ready(0), put off", x.ready(0), 6);
        CHECK.due("ready(1)", x.ready(1), 3);
        sailed(x, 1);
        CHECK.due("ready(1), it sailed", x.ready(1), -2);
        CHECK.due("ready(0), the only one", x.ready(0), 2);
        x.undo();
        CHECK.due("ready(1), taken back", x.ready(1), 3);
        CHECK.says(41, "The last DAY of loading: of one of load 1 it is this DAY");
        BlendYard y = ships(ship(1, 1, 1));
        CHECK.due("ready(0) on DAY 0", y.ready(0), 0);
        y.days(99);
        CHECK.due("ready(0) on DAY 99", y.ready(0), 99);
    }

    private static void costOthers() {
        CHECK.says(42, "NONE for another what");
        BlendYard x = ships(ship(1, 9, 3));
        for (int what : new int[] {-1, 2, 3, MIN, MAX}) {
            CHECK.due("cost(" + what + ")", x.cost(what), -1);
            CHECK.due("cost(" + what + "), no SHIPS", new BlendYard().cost(what), -1);
        }
    }

    private static void costNow() {
        CHECK.says(42, "What all LATE SHIPS cost now (what 0)");
        BlendYard x = ships(ship(1, 9, 3), ship(2, 9, 100), ship(3, 9, 0));
        int[] want = {0, 0, 3, 106, 209};
        for (int day = 0; day < want.length; day++) {
            CHECK.due("cost(0) on DAY " + day, x.cost(0), want[day]);
            x.days(1);
        }
        sailed(x, 1);
        x.days(2);
        CHECK.due("cost(0) on DAY 7, one sailed on DAY 5", x.cost(0), 6 * 3 + 3 * 100);
        BlendYard y = ships(ship(1, 20, 999), ship(1, 20, 999), ship(1, 20, 999), ship(1, 20, 999), ship(1, 20, 999), ship(1, 20, 999),
            ship(1, 20, 999), ship(1, 20, 999));
        for (int i = 0; i < 10; i++) {
            y.days(99);
        }
        y.days(9);
        CHECK.due("count(11), the most there can be", y.count(11), 8);
        CHECK.due("count(5), none of eight", y.count(5), 0);
        CHECK.due("cost(0), the most there can be", y.cost(0), 8 * 998 * 999);
        CHECK.due("cost(1), the most there can be", y.cost(1), (8 * 997 + 20 * 36) * 999);
    }

    private static void costByOrder() {
        CHECK.says(42, "by ORDER: others by their last DAY of loading (1)");
        for (int load = 1; load <= 4; load++) {
            CHECK.due("cost(1), load " + load + ", due 2", ships(ship(2, load, 10)).cost(1), load == 4 ? 10 : 0);
        }
        BlendYard x = ships(ship(2, 2, 10), ship(3, 3, 1));
        CHECK.due("cost(1), the second one is put off", x.cost(1), 1);
        x.days(1);
        CHECK.due("cost(1) on DAY 1", x.cost(1), 2);
        x.days(1);
        // Neither is in time: the first one by DAY 3, the second one by DAY 6.
        CHECK.due("cost(1) on DAY 2", x.cost(1), 10 + 3);
        CHECK.says(42, "by ORDER: those that sailed as they did");
        x.days(2);
        CHECK.due("sail(0) on DAY 4", sailed(x, 0), 2);
        CHECK.due("cost(1)", x.cost(1), 20 + 3);
        CHECK.due("cost(0)", x.cost(0), 20 + 1);
        sailed(x, 1);
        x.days(50);
        CHECK.due("cost(1), all sailed", x.cost(1), 20 + 1);
        CHECK.due("cost(0), all sailed", x.cost(0), 20 + 1);
        BlendYard y = ships(ship(2, 2, 10), ship(3, 3, 1));
        sailed(y, 0);
        sailed(y, 1);
        y.days(50);
        CHECK.due("cost(1), all sailed in time", y.cost(1), 0);
        CHECK.due("cost(0), all sailed in time", y.cost(0), 0);
    }
}
