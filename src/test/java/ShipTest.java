/** Promises 6, 17, 18 and 39 to 42: days, ships that sail, late ones and what they cost, the plan. */
public final class ShipTest {
    private static final Check CHECK = new Check("ShipTest");

    public static void main(String[] args) {
        days();
        sailing();
        bounds();
        late();
        plan();
        putOffAgain();
        likeLoads();
        likeDues();
        eachByItself();
        noShips();
        sailedShips();
        CHECK.end();
    }

    private static void days() {
        BlendYard x = new BlendYard();
        for (int w : new int[] {0, -1, 100, Integer.MIN_VALUE, Integer.MAX_VALUE}) {
            CHECK.due(18, "days(" + w + ")", x.days(w), -1);
        }
        CHECK.due(18, "count(8)", x.count(8), 0);
        CHECK.due(18, "days(1)", x.days(1), 1);
        for (int i = 1; i <= 10; i++) {
            CHECK.due(18, "days(99)", x.days(99), 1 + 99 * i);
        }
        CHECK.due(18, "days(9) beyond 999", x.days(9), -1);
        CHECK.due(18, "days(8)", x.days(8), 999);
        CHECK.due(18, "days(1) beyond 999", x.days(1), -1);
        CHECK.due(4, "count(4)", x.count(4), 999);
    }

    private static final String YARD = "lot a tonnes 900 grade 100;lot b tonnes 900 grade 103;pile p cells 4;"
        + "ship s needs 10 low 101 high 102 due 3 load 2 fine 5;ship t needs 10 low 0 high 99 due 1 load 2;"
        + "ship u needs 7 low 100 high 100 due 2 load 2 fine 9;gap 0;";

    private static void sailing() {
        BlendYard x = Check.yard(YARD);
        for (int w : new int[] {-1, 3, Integer.MIN_VALUE, Integer.MAX_VALUE}) {
            CHECK.due(17, "sail(" + w + ")", x.sail(w), -1);
        }
        CHECK.due(17, "sail(2), not full", x.sail(2), -1);
        x.lay(0, 0, 0, 3, 6);
        x.park(0);
        x.cut(0, 0, 2);
        CHECK.due(17, "sail(2), not full", x.sail(2), -1);
        CHECK.due(17, "count(8)", x.count(8), 3);
        x.cut(0, 1, 2);
        x.days(2);
        CHECK.due(17, "sail(2)", x.sail(2), 0);
        CHECK.due(6, "ship(2, 7)", x.ship(2, 7), 2);
        CHECK.due(4, "count(5)", x.count(5), 1);
        CHECK.due(17, "sail(2), it sailed", x.sail(2), -1);
        x.days(9);
        CHECK.due(6, "ship(2, 7)", x.ship(2, 7), 2);
        CHECK.due(6, "ship(2, 8)", x.ship(2, 8), 0);
        CHECK.due(6, "ship(2, 9)", x.ship(2, 9), 0);
        x.cut(0, 2, 1);
        x.cut(0, 3, 1);
        CHECK.due(17, "sail(1), above high", x.sail(1), -1);
        CHECK.due(6, "ship(1, 7)", x.ship(1, 7), -1);
    }

    private static void bounds() {
        int[][] laid = {{3, 4, -1}, {4, 3, 0}, {6, 3, 0}, {7, 3, -1}, {3, 6, 0}, {3, 7, -1}, {9, 3, -1}};
        for (int[] l : laid) {
            BlendYard x = Check.yard("lot a tonnes 99 grade 0;lot b tonnes 99 grade 3;pile p cells 4;"
                + "ship s needs " + (l[0] + l[1]) + " low 1 high 2 due 3 load 2 fine 5;");
            x.lay(0, 0, 0, 0, l[0]);
            x.lay(0, 1, 0, 0, l[1]);
            x.park(0);
            x.cut(0, 0, 0);
            int ore = 3 * l[1];
            boolean in = ore >= l[0] + l[1] && ore <= 2 * (l[0] + l[1]);
            CHECK.due(17, "sail of " + l[0] + " and " + l[1], x.sail(0), in ? 0 : -1);
        }
    }

    private static void late() {
        BlendYard x = Check.yard(YARD);
        x.days(2);
        CHECK.due(4, "count(11)", x.count(11), 1);
        CHECK.due(6, "ship(1, 8)", x.ship(1, 8), 1);
        CHECK.due(6, "ship(1, 9), no fine", x.ship(1, 9), 0);
        CHECK.due(6, "ship(2, 8), its due day", x.ship(2, 8), 0);
        CHECK.due(42, "cost(0)", x.cost(0), 0);
        x.days(4);
        CHECK.due(4, "count(11)", x.count(11), 3);
        CHECK.due(6, "ship(0, 8)", x.ship(0, 8), 3);
        CHECK.due(6, "ship(0, 9)", x.ship(0, 9), 15);
        CHECK.due(6, "ship(2, 9)", x.ship(2, 9), 36);
        CHECK.due(42, "cost(0)", x.cost(0), 51);
        x.lay(0, 0, 0, 0, 7);
        x.park(0);
        x.cut(0, 0, 2);
        CHECK.due(17, "sail(2)", x.sail(2), 4);
        x.days(1);
        CHECK.due(42, "cost(0)", x.cost(0), 20 + 36);
        CHECK.due(4, "count(11), it sailed late", x.count(11), 3);
        for (int w : new int[] {-1, 2, Integer.MIN_VALUE, Integer.MAX_VALUE}) {
            CHECK.due(42, "cost(" + w + ")", x.cost(w), -1);
        }
    }

    private static void plans(BlendYard x, int fewest, int[] order, int[] ready) {
        CHECK.due(39, "fewest()", x.fewest(), fewest);
        CHECK.due(40, "order(-1)", x.order(-1), order.length);
        for (int k = 0; k < order.length; k++) {
            CHECK.due(40, "order(" + k + ")", x.order(k), order[k]);
            CHECK.due(41, "ready(" + order[k] + ")", x.ready(order[k]), ready[k]);
        }
        for (int k : new int[] {-2, order.length, Integer.MIN_VALUE, Integer.MAX_VALUE}) {
            CHECK.due(40, "order(" + k + ")", x.order(k), -2);
        }
        for (int ship : new int[] {-1, x.count(2), Integer.MIN_VALUE, Integer.MAX_VALUE}) {
            CHECK.due(41, "ready(" + ship + ")", x.ready(ship), -1);
        }
    }

    private static String ships(int[]... dueLoadFine) {
        StringBuilder text = new StringBuilder("lot a tonnes 99 grade 5;pile p cells 2;gap 0;");
        for (int i = 0; i < dueLoadFine.length; i++) {
            int[] s = dueLoadFine[i];
            text.append("ship s").append((char) ('a' + i)).append(" needs 1 low 0 high 9 due ").append(s[0]);
            text.append(" load ").append(s[1]).append(" fine ").append(s[2]).append(";");
        }
        return text.toString();
    }

    private static void plan() {
        BlendYard x = Check.yard(ships(new int[] {4, 3, 1}, new int[] {1, 2, 10}, new int[] {9, 5, 100}));
        // 1 is ready on day 1, 0 on day 4, 2 on day 9: all in time.
        plans(x, 0, new int[] {1, 0, 2}, new int[] {1, 4, 9});
        CHECK.due(42, "cost(1)", x.cost(1), 0);
        x.days(1);
        // 1 would be ready on day 2: put off; 0 on day 3, 2 on day 8, 1 on day 10.
        plans(x, 1, new int[] {0, 2, 1}, new int[] {3, 8, 10});
        CHECK.due(42, "cost(1)", x.cost(1), 90);
        CHECK.due(42, "cost(0)", x.cost(0), 0);
        x.days(4);
        // Day 5: 0 and 1 are over; 2 is ready on day 9.
        plans(x, 2, new int[] {2, 0, 1}, new int[] {9, 12, 14});
        CHECK.due(42, "cost(1)", x.cost(1), 8 + 130);
        CHECK.due(42, "cost(0)", x.cost(0), 1 + 40);
        x.days(1);
        plans(x, 3, new int[] {0, 1, 2}, new int[] {8, 10, 15});
        CHECK.due(42, "cost(1)", x.cost(1), 4 + 90 + 600);
    }

    /** The one put off is the longest of those taken so far, not the one that would be late. */
    private static void putOffAgain() {
        BlendYard x = Check.yard(ships(new int[] {6, 6, 1}, new int[] {7, 3, 1}, new int[] {8, 4, 1}, new int[] {9, 3, 1}));
        plans(x, 1, new int[] {1, 2, 3, 0}, new int[] {2, 6, 9, 15});
        CHECK.due(42, "cost(1)", x.cost(1), 9);
        x.days(3);
        plans(x, 2, new int[] {1, 3, 0, 2}, new int[] {5, 8, 14, 18});
        x.days(2);
        plans(x, 3, new int[] {1, 0, 2, 3}, new int[] {7, 13, 17, 20});
    }

    private static void likeLoads() {
        BlendYard x = Check.yard(ships(new int[] {7, 4, 1}, new int[] {3, 4, 1}, new int[] {10, 4, 1}));
        // All three fit by day 11 at the earliest: of those alike the one with the greatest number is put off.
        plans(x, 1, new int[] {1, 0, 2}, new int[] {3, 7, 11});
        BlendYard y = Check.yard(ships(new int[] {10, 4, 1}, new int[] {3, 4, 1}, new int[] {7, 4, 1}));
        plans(y, 1, new int[] {1, 0, 2}, new int[] {3, 7, 11});
    }

    private static void likeDues() {
        BlendYard x = Check.yard(ships(new int[] {9, 1, 1}, new int[] {9, 2, 1}, new int[] {5, 1, 1}, new int[] {9, 1, 1}));
        plans(x, 0, new int[] {2, 0, 1, 3}, new int[] {0, 1, 3, 4});
    }

    /** No call needs another one ahead of it. */
    private static void eachByItself() {
        for (int call = 0; call < 5; call++) {
            BlendYard x = Check.yard(ships(new int[] {4, 3, 1}, new int[] {1, 2, 10}, new int[] {9, 5, 100}));
            x.days(1);
            for (int i = 0; i < 2; i++) {
                switch (call) {
                    case 0: CHECK.due(39, "fewest()", x.fewest(), i == 0 ? 1 : 2); break;
                    case 1: CHECK.due(40, "order(0)", x.order(0), i == 0 ? 0 : 2); break;
                    case 2: CHECK.due(40, "order(-1)", x.order(-1), 3); break;
                    case 3: CHECK.due(41, "ready(1)", x.ready(1), i == 0 ? 10 : 14); break;
                    default: CHECK.due(42, "cost(1)", x.cost(1), i == 0 ? 90 : 8 + 130);
                }
                x.days(4);
            }
        }
    }

    private static void noShips() {
        BlendYard x = new BlendYard();
        plans(x, 0, new int[0], new int[0]);
        CHECK.due(42, "cost(0)", x.cost(0), 0);
        CHECK.due(42, "cost(1)", x.cost(1), 0);
    }

    private static void sailedShips() {
        BlendYard x = Check.yard(ships(new int[] {4, 3, 1}, new int[] {1, 2, 10}, new int[] {9, 5, 100}));
        x.lay(0, 0, 0, 1, 5);
        x.park(0);
        x.days(3);
        x.cut(0, 0, 1);
        CHECK.due(17, "sail(1)", x.sail(1), 2);
        plans(x, 1, new int[] {2, 0}, new int[] {7, 10});
        CHECK.due(41, "ready(1), it sailed", x.ready(1), -2);
        CHECK.due(42, "cost(1)", x.cost(1), 20 + 6);
        CHECK.due(42, "cost(0)", x.cost(0), 20);
        x.cut(0, 1, 0);
        x.sail(0);
        plans(x, 0, new int[] {2}, new int[] {7});
        CHECK.due(42, "cost(1)", x.cost(1), 20);
    }
}
