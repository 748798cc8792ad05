import java.util.function.ToLongFunction;

/** All promises: a call that is refused, and a look, change nothing that any later call could tell. */
public final class EdgeNothingTest {
    private static final Check CHECK = new Check("EdgeNothingTest");
    private static final int MIN = Integer.MIN_VALUE;
    private static final int MAX = Integer.MAX_VALUE;

    public static void main(String[] args) {
        refusedDoings();
        refusedLooks();
        looks();
        fullTape();
        CHECK.end();
    }

    /** Much is on its way: LAYERS, a SHIP that sailed, ORDERS, an IMAGE, bytes on THE TAPE, what is below. */
    private static BlendYard busy() {
        BlendYard x = Check.yard("lot a tonnes 900 grade 10;lot b tonnes 8 grade 25;lot c tonnes 5 grade 0;pile p cells 6;pile q cells 4;"
            + "ship s needs 10 low 0 high 999 due 1 load 1 fine 7;ship t needs 900 low 0 high 999 due 5 load 2 fine 3;"
            + "ship u needs 4 low 100 high 999 due 1 load 1 fine 7;gap 1;");
        x.lay(0, 0, 0, 5, 2);
        x.lay(0, 1, 5, 4, 4);
        x.lay(0, 2, 4, 4, 5);
        x.park(0);
        x.cut(0, 5, 2);
        x.cut(0, 4, 0);
        x.days(2);
        x.sail(0);
        x.image(0, false);
        x.lay(0, 0, 1, 0, 1);
        x.toLay(1, 0, 1, 3, 4);
        x.toCut(0, 4, 1);
        x.toCut(1, 2, 1);
        x.minutes(5);
        x.worst(3, 17);
        x.spread(0);
        x.hold(0);
        Check.feed(x, "gap 2;");
        return x;
    }

    private static String state(BlendYard x) {
        StringBuilder all = new StringBuilder();
        all.append(x.below()).append(' ').append(x.spreadBelow()).append(' ').append(x.worstBelow()).append(' ');
        for (int what = 0; what < 17; what++) {
            all.append(x.count(what)).append(' ');
        }
        for (int i = 0; i < 3; i++) {
            all.append(x.lot(i, 2)).append(' ').append(x.stands(i)).append(' ').append(x.pile(i, 1)).append(' ');
            all.append(x.ship(i, 6)).append(' ').append(x.ship(i, 7)).append(' ').append(x.ready(i)).append(' ');
            for (int layer = 0; layer < 5; layer++) {
                all.append(x.layer(i, layer, 0)).append(' ').append(x.layer(i, layer, 1)).append(' ');
                all.append(x.layer(i, layer, 2)).append(' ');
            }
        }
        return all.append(x.ends()).append(' ').append(x.cost(0)).append(' ').append(x.cost(1)).toString();
    }

    /** Beside one on which the call was not made, then both on their way, then taken back, then as in the IMAGE. */
    private static void nothing(String call, long want, ToLongFunction<BlendYard> made) {
        BlendYard x = busy();
        BlendYard y = busy();
        CHECK.due(call, made.applyAsLong(x), want);
        CHECK.due(call + ", then all", state(x).equals(state(y)), true);
        CHECK.due(call + ", then minutes(5)", x.minutes(5), y.minutes(5));
        CHECK.due(call + ", minutes(5), then all", state(x).equals(state(y)), true);
        CHECK.due(call + ", then undo()", x.undo(), y.undo());
        CHECK.due(call + ", then undo()", x.undo(), y.undo());
        CHECK.due(call + ", undo(), then all", state(x).equals(state(y)), true);
        CHECK.due(call + ", then image(0, true)", x.image(0, true), y.image(0, true));
        CHECK.due(call + ", image(0, true), then all", state(x).equals(state(y)), true);
        CHECK.due(call + ", then text(6)", x.text(6), y.text(6));
        CHECK.due(call + ", text(6), then all", x.count(3), y.count(3));
    }

    private static void refusedDoings() {
        CHECK.says(13, "NONE, and nothing happens: it can't be");
        nothing("lay, no such PILE", -1, x -> x.lay(2, 0, 0, 0, 1));
        nothing("lay, no such LOT", -1, x -> x.lay(0, 3, 0, 0, 1));
        nothing("lay, no such CELL", -1, x -> x.lay(0, 0, 0, 6, 1));
        nothing("lay, no such CELL", -1, x -> x.lay(0, 0, MAX, MIN, 1));
        nothing("lay, t 0", -1, x -> x.lay(0, 0, 0, 0, 0));
        nothing("lay, t 100", -1, x -> x.lay(0, 0, 0, 0, 100));
        nothing("lay, not so many tonnes", -1, x -> x.lay(0, 1, 0, 1, 1));
        nothing("lay, not APART", -1, x -> x.lay(0, 0, 0, 3, 1));
        CHECK.says(15, "NONE, and nothing happens: it can't be");
        nothing("cut, no such PILE", -1, x -> x.cut(-1, 0, 1));
        nothing("cut, no such CELL", -1, x -> x.cut(0, 6, 1));
        nothing("cut, no such SHIP", -1, x -> x.cut(0, 3, 3));
        nothing("cut, nothing lies there", -1, x -> x.cut(0, 5, 1));
        nothing("cut, it sailed", -1, x -> x.cut(0, 3, 0));
        nothing("cut, it is FULL", -1, x -> x.cut(0, 3, 2));
        nothing("cut, not APART", -1, x -> x.cut(0, 0, 1));
        CHECK.says(16, "false: another machine, it is there");
        nothing("park(2)", 0, x -> x.park(2) ? 1 : 0);
        nothing("park(-1)", 0, x -> x.park(-1) ? 1 : 0);
        CHECK.says(17, "NONE: none such, it sailed, is not FULL, its GRADE is not within its bounds");
        nothing("sail(3)", -1, x -> x.sail(3));
        nothing("sail(0), it sailed", -1, x -> x.sail(0));
        nothing("sail(1), not FULL", -1, x -> x.sail(1));
        nothing("sail(2), not within", -1, x -> x.sail(2));
        CHECK.says(18, "NONE: others");
        nothing("days(0)", -1, x -> x.days(0));
        nothing("days(100)", -1, x -> x.days(100));
        CHECK.says(19, "NONE: none such");
        nothing("toLay, no such LOT", -1, x -> x.toLay(0, 3, 0, 0, 1));
        nothing("toLay, t 100", -1, x -> x.toLay(0, 0, 0, 0, 100));
        CHECK.says(20, "NONE likewise");
        nothing("toCut, no such SHIP", -1, x -> x.toCut(0, 0, 3));
        nothing("toCut, no such CELL", -1, x -> x.toCut(1, 4, 0));
        CHECK.says(21, "NONE: another machine, none");
        nothing("drop(2)", -1, x -> x.drop(2));
        nothing("drop(-1)", -1, x -> x.drop(-1));
        CHECK.says(22, "NONE: another n");
        nothing("minutes(0)", -1, x -> x.minutes(0));
        nothing("minutes(201)", -1, x -> x.minutes(201));
        CHECK.says(25, "false: none such, (back) nothing is in it");
        nothing("image(2, false)", 0, x -> x.image(2, false) ? 1 : 0);
        nothing("image(-1, true)", 0, x -> x.image(-1, true) ? 1 : 0);
        nothing("image(1, true), nothing is in it", 0, x -> x.image(1, true) ? 1 : 0);
        CHECK.says(3, "NONE: it has not so many, n is below 0 (THE TAPE stays)");
        nothing("text(21)", -1, x -> x.text(21));
        nothing("text(-1)", -1, x -> x.text(-1));
    }

    private static void refusedLooks() {
        CHECK.says(26, "a look that answers NONE or -2 changes nothing, what is below neither");
        nothing("cell(0, 6)", -1, x -> x.cell(0, 6));
        nothing("cell(0, 5), nothing lies there", -2, x -> x.cell(0, 5));
        nothing("whole(2)", -1, x -> x.whole(2));
        nothing("whole(1), nothing lies there", -2, x -> x.whole(1));
        nothing("hold(3)", -1, x -> x.hold(3));
        nothing("hold(1), nothing lies there", -2, x -> x.hold(1));
        nothing("within(0, 5, 4)", -1, x -> x.within(0, 5, 4));
        nothing("spread(2)", -1, x -> x.spread(2));
        nothing("spread(1), nothing lies there", -2, x -> x.spread(1));
        nothing("ifLaid, it can't be", -1, x -> x.ifLaid(0, 0, 0, 5, 1, 0));
        nothing("ifLaid, nothing would lie there", -2, x -> x.ifLaid(1, 0, 0, 1, 1, 3));
        nothing("layOrder(1, 5, 0)", -1, x -> x.layOrder(1, 5, 0));
        nothing("layOrder(3, 5, 2)", -2, x -> x.layOrder(3, 5, 2));
        nothing("worst(1, 5)", -1, x -> x.worst(1, 5));
        nothing("worst(3, 1000)", -1, x -> x.worst(3, 1000));
        nothing("worst(6, 5), nothing of them is left", -1, x -> x.worst(6, 5));
        nothing("next(0, 0, 5)", -1, x -> x.next(0, 0, 5));
        nothing("way(0, 0, 0), it sailed", -1, x -> x.way(0, 0, 0));
        nothing("way(1, 1, 0), none", -2, x -> x.way(1, 1, 0));
        nothing("order(9)", -2, x -> x.order(9));
        nothing("ready(0), it sailed", -2, x -> x.ready(0));
        nothing("ready(3)", -1, x -> x.ready(3));
        nothing("cost(2)", -1, x -> x.cost(2));
        nothing("count(17)", -1, x -> x.count(17));
        nothing("stands(2)", -2, x -> x.stands(2));
        nothing("pile(2, 0)", -2, x -> x.pile(2, 0));
        nothing("layer(0, 9, 0)", -2, x -> x.layer(0, 9, 0));
        nothing("tonnes(0, 0, 6)", -2, x -> x.tonnes(0, 0, 6));
        CHECK.says(5, "NoSuchElementException: nothing changes");
        nothing("lot(3, 0)", 7, x -> thrown(() -> x.lot(3, 0)));
        nothing("ship(3, 0)", 7, x -> thrown(() -> x.ship(3, 0)));
    }

    private static int thrown(Check.Call made) {
        try {
            return made.answer();
        } catch (java.util.NoSuchElementException e) {
            return 7;
        }
    }

    private static void looks() {
        CHECK.says(12, "a look, a thought changes nothing");
        nothing("whyLay", 0, x -> x.whyLay(1, 0, 0, 3, 5));
        nothing("whyCut", 0, x -> x.whyCut(0, 3, 1));
        nothing("ends(), some are left", -2, x -> x.ends());
        nothing("within(0, 0, 999)", 0b1111, x -> x.within(0, 0, 999));
        nothing("layOrder(3, 10, 0)", 0, x -> x.layOrder(3, 10, 0));
        nothing("next(0, 1, 10)", 0, x -> x.next(0, 1, 10));
        nothing("way(1, 0, 0), none", -2, x -> x.way(1, 0, 0));
        nothing("fewest()", 1, x -> x.fewest());
        nothing("order(0)", 1, x -> x.order(0));
        nothing("ready(1)", 3, x -> x.ready(1));
        nothing("cost(1)", 7 + 21, x -> x.cost(1));
        nothing("apart()", 4, x -> x.apart());
        nothing("layer(0, 0, 2)", 0b1111, x -> x.layer(0, 0, 2));
    }

    private static void fullTape() {
        CHECK.says(2, "NONE, and none come, if it would have more than 600");
        for (int fed = 0; fed < 30; fed += 7) {
            BlendYard x = busy();
            BlendYard y = busy();
            for (int i = 0; i < 29; i++) {
                x.feed(0x20202020, 0x20202020, 0x20202020, 0x20202020, 0x20202020);
                y.feed(0x20202020, 0x20202020, 0x20202020, 0x20202020, 0x20202020);
            }
            CHECK.due("feed", x.feed(fed, MAX, MIN, -1, 0x23232323), -1);
            CHECK.due("all", state(x).equals(state(y)), true);
            CHECK.due("text(600)", x.text(600), 1);
            CHECK.due("count(3)", x.count(3), 2);
        }
    }
}
