/** Promises 24 and 25 and the end of the terms: each sentence that names an edge of taking back and of IMAGES. */
public final class EdgeHistoryTest {
    private static final Check CHECK = new Check("EdgeHistoryTest");
    private static final int MIN = Integer.MIN_VALUE;
    private static final int MAX = Integer.MAX_VALUE;

    public static void main(String[] args) {
        none();
        eachOfNine();
        theFirstCell();
        whatWaited();
        theLotOfALayer();
        refused();
        looksAreNothing();
        twelveAtMost();
        roundAndRound();
        theLatest();
        noneSuch();
        nothingIsInIt();
        nothingCanBeTakenBack();
        allIsAsInIt();
        twoImages();
        laidAnew();
        allBut();
        neverTakenBack();
        CHECK.end();
    }

    private static BlendYard yard() {
        return Check.yard("lot a tonnes 900 grade 10;lot b tonnes 90 grade 25;pile p cells 6;pile q cells 4;"
            + "ship s needs 10 low 0 high 999 due 1 load 1 fine 7;ship t needs 999 low 0 high 999 due 5 load 1;gap 1;");
    }

    /** All that can be asked of a yard of two LOTS, PILES and SHIPS, but for what is below and what calls change. */
    private static String state(BlendYard x) {
        StringBuilder all = new StringBuilder();
        for (int what = 0; what < 17; what++) {
            all.append(what == 8 || what == 9 || what == 10 ? 0 : x.count(what)).append(' ');
        }
        for (int i = 0; i < 2; i++) {
            all.append(x.lot(i, 2)).append(' ').append(x.stands(i)).append(' ').append(x.hold(i)).append(' ');
            for (int what = 6; what < 10; what++) {
                all.append(x.ship(i, what)).append(' ');
            }
            int layers = x.pile(i, 1);
            all.append(layers).append(' ').append(x.pile(i, 2)).append(' ').append(x.whole(i)).append(' ');
            for (int layer = 0; layer < layers; layer++) {
                all.append(x.layer(i, layer, 0)).append(' ').append(x.layer(i, layer, 1)).append(' ');
                all.append(x.layer(i, layer, 2)).append(' ');
            }
            all.append(x.order(i)).append(' ').append(x.ready(i)).append(' ');
        }
        return all.append(x.ends()).append(' ').append(x.cost(0)).append(' ').append(x.cost(1)).toString();
    }

    private static void none() {
        CHECK.says(24, "NONE: none");
        BlendYard x = new BlendYard();
        CHECK.due("a new object", x.undo(), -1);
        x = yard();
        CHECK.due("a new TEXT", x.undo(), -1);
        x.days(1);
        CHECK.due("undo()", x.undo(), 0);
        CHECK.due("undo() again", x.undo(), -1);
        CHECK.due("count(4)", x.count(4), 0);
        CHECK.due("count(8)", x.count(8), 0);
    }

    private static long act(BlendYard x, int what) {
        switch (what) {
            case 0: return x.lay(0, 1, 1, 0, 3);
            case 1: return x.cut(0, 5, 1);
            case 2: return x.park(0) ? 1 : 0;
            case 3: return x.sail(0);
            case 4: return x.days(3);
            case 5: return x.toLay(1, 1, 0, 3, 2);
            case 6: return x.toCut(1, 0, 1);
            case 7: return x.drop(0);
            case 8: return x.drop(1);
            case 9: return x.minutes(9);
            default: return x.park(1) ? 1 : 0;
        }
    }

    private static final String[] ACTS = {"lay()", "cut()", "park(0)", "sail()", "days()", "toLay()", "toCut()", "drop(0)", "drop(1)",
        "minutes()", "park(1)"};
    private static final int[] DUE = {3, 2, 1, 1, 5, 2, 2, 1, 1, 0, 1};

    /** A yard in which each act can be done. */
    private static BlendYard busy() {
        BlendYard x = yard();
        x.lay(0, 0, 0, 5, 2);
        x.lay(0, 0, 5, 2, 5);
        x.park(0);
        x.cut(0, 3, 0);
        x.cut(0, 2, 0);
        x.cut(0, 4, 1);
        x.lay(0, 0, 0, 0, 1);
        x.lay(0, 1, 1, 2, 1);
        x.days(2);
        x.toLay(0, 0, 2, 0, 4);
        x.toCut(0, 5, 1);
        x.minutes(1);
        return x;
    }

    private static void eachOfNine() {
        for (int what = 0; what < ACTS.length; what++) {
            CHECK.says(24, "What was done (" + ACTS[what] + ") can be taken back");
            BlendYard x = busy();
            x.image(0, false);
            x.image(0, true);
            x.days(1);
            String before = state(x);
            int held = x.count(8);
            long answer = act(x, what);
            CHECK.due("it can be done", answer >= 0, true);
            CHECK.due("count(8)", x.count(8), held + 1);
            String after = state(x);
            CHECK.due("it does something", after.equals(before), false);
            CHECK.due("undo()", x.undo(), held);
            CHECK.due("all is as ahead of it", state(x).equals(before), true);
            CHECK.due("done once more", act(x, what), answer);
            CHECK.due("all is as behind it", state(x).equals(after), true);
        }
    }

    private static void theFirstCell() {
        CHECK.says(24, "taken back: what was cut of the first CELL, the last one, what is in the hold");
        BlendYard x = yard();
        x.lay(0, 0, 0, 5, 2);
        x.lay(0, 1, 5, 0, 3);
        x.park(0);
        x.cut(0, 3, 1);
        x.image(1, false);
        String before = state(x);
        for (int cell : new int[] {0, 5}) {
            CHECK.due("cut", x.cut(0, cell, 0), 5);
            CHECK.due("hold(0)", x.hold(0), 19);
            CHECK.due("undo()", x.undo(), 4);
            CHECK.due("state", state(x).equals(before), true);
            CHECK.due("tonnes(0, 0, " + cell + ")", x.tonnes(0, 0, cell), 2);
            CHECK.due("tonnes(0, 1, " + cell + ")", x.tonnes(0, 1, cell), 3);
            CHECK.due("hold(0)", x.hold(0), -2);
        }
        x.cut(0, 0, 1);
        x.cut(0, 5, 0);
        CHECK.due("image(1, true)", x.image(1, true), true);
        CHECK.due("state", state(x).equals(before), true);
        CHECK.due("hold(1)", x.hold(1), 19);
        x.cut(0, 4, 1);
        CHECK.due("hold(1)", x.hold(1), 19);
        CHECK.due("ship(1, 6)", x.ship(1, 6), 10);
    }

    private static void whatWaited() {
        CHECK.says(24, "taken back: MINUTES that they WAITED, that went by");
        BlendYard x = yard();
        x.lay(0, 0, 0, 5, 2);
        x.lay(0, 0, 3, 3, 2);
        x.cut(0, 0, 1);
        x.toCut(0, 5, 1);
        x.toLay(0, 0, 0, 0, 1);
        x.minutes(5);
        x.image(0, false);
        int[] first = {x.count(14), x.count(15), x.count(16)};
        CHECK.due("count(14)", first[0], 5);
        CHECK.due("count(15)", first[1], 4);
        x.minutes(3);
        CHECK.due("count(14)", x.count(14), 8);
        CHECK.due("undo()", x.undo(), 6);
        for (int i = 0; i < 3; i++) {
            CHECK.due("count(" + (14 + i) + ")", x.count(14 + i), first[i]);
        }
        x.undo();
        for (int i = 0; i < 3; i++) {
            CHECK.due("count(" + (14 + i) + ")", x.count(14 + i), 0);
        }
        x.image(0, true);
        for (int i = 0; i < 3; i++) {
            CHECK.due("count(" + (14 + i) + "), as in the IMAGE", x.count(14 + i), first[i]);
        }
    }

    private static void theLotOfALayer() {
        CHECK.says(25, "back: the LOT of each LAYER is as in it");
        BlendYard x = yard();
        for (int pile = 0; pile < 2; pile++) {
            x.lay(pile, 0, 0, 0, 4);
            x.lay(pile, 1, 0, 0, 4);
        }
        x.image(0, false);
        for (int i = 0; i < 4; i++) {
            x.undo();
        }
        for (int pile = 0; pile < 2; pile++) {
            x.lay(pile, 1, 0, 0, 4);
            x.lay(pile, 0, 0, 0, 6);
        }
        x.image(1, false);
        for (int k = 0; k < 2; k++) {
            CHECK.due("image(" + k + ", true)", x.image(k, true), true);
            for (int pile = 0; pile < 2; pile++) {
                CHECK.due("layer(" + pile + ", 0, 0)", x.layer(pile, 0, 0), k);
                CHECK.due("layer(" + pile + ", 1, 0)", x.layer(pile, 1, 0), 1 - k);
                CHECK.due("cell(" + pile + ", 0)", x.cell(pile, 0), k == 0 ? 35 : 16);
            }
        }
    }

    private static void refused() {
        CHECK.says(24, "What was done can be taken back: a call that is refused did nothing");
        BlendYard x = busy();
        x.image(0, false);
        x.image(0, true);
        x.days(1);
        CHECK.due("count(8)", x.count(8), 1);
        x.lay(0, 0, 6, 0, 1);
        x.lay(0, 0, 5, 5, 1);
        x.cut(0, 0, 9);
        x.cut(0, 4, 1);
        x.park(2);
        x.sail(1);
        x.sail(2);
        x.days(0);
        x.days(100);
        x.toLay(0, 0, 0, 0, 0);
        x.toCut(0, 0, 2);
        x.drop(2);
        x.minutes(0);
        x.minutes(201);
        x.image(2, false);
        x.image(1, true);
        x.feed(0, 0, 0, 0, 0);
        x.text(-1);
        x.text(5);
        CHECK.due("count(8)", x.count(8), 1);
        CHECK.due("undo()", x.undo(), 0);
        CHECK.due("undo()", x.undo(), -1);
        BlendYard y = yard();
        y.park(0);
        y.park(1);
        y.drop(0);
        y.drop(1);
        CHECK.due("count(8), nothing to park or to drop", y.count(8), 0);
    }

    private static void looksAreNothing() {
        CHECK.says(24, "What was done: no look, no thought is one of them");
        BlendYard x = busy();
        x.image(0, false);
        x.image(0, true);
        x.ends();
        x.whyLay(0, 0, 0, 0, 1);
        x.whyCut(0, 1, 1);
        x.ifLaid(0, 0, 0, 0, 1, 0);
        x.cell(0, 0);
        x.whole(0);
        x.hold(0);
        x.spread(0);
        x.worst(3, 5);
        x.layOrder(3, 5, 0);
        x.next(0, 1, 5);
        x.way(1, 0, 0);
        x.fewest();
        x.order(0);
        x.ready(1);
        x.cost(1);
        x.image(1, false);
        CHECK.due("count(8)", x.count(8), 0);
        CHECK.due("undo()", x.undo(), -1);
    }

    private static void twelveAtMost() {
        CHECK.says(24, "12 at most");
        for (int done = 11; done <= 14; done++) {
            BlendYard x = yard();
            for (int i = 0; i < done; i++) {
                x.days(1);
                CHECK.due("count(8)", x.count(8), Math.min(12, i + 1));
            }
            int most = Math.min(12, done);
            for (int i = 1; i <= most; i++) {
                CHECK.due("undo() " + i + " of " + done, x.undo(), most - i);
                CHECK.due("count(4)", x.count(4), done - i);
            }
            CHECK.due("undo(), none", x.undo(), -1);
            CHECK.due("count(4)", x.count(4), done - most);
        }
    }

    private static void roundAndRound() {
        CHECK.says(24, "12 at most, over and over");
        BlendYard x = yard();
        int[] days = new int[200];
        int top = 0;
        int held = 0;
        for (int i = 0; i < 150; i++) {
            if (i % 7 < 5) {
                int n = 1 + i % 5;
                days[top + 1] = days[top] + n;
                top++;
                held = Math.min(12, held + 1);
                CHECK.due("days(" + n + ")", x.days(n), days[top]);
            } else {
                top--;
                held--;
                CHECK.due("undo()", x.undo(), held);
            }
            CHECK.due("count(4)", x.count(4), days[top]);
            CHECK.due("count(8)", x.count(8), held);
        }
        for (int i = 0; i < 12; i++) {
            top--;
            CHECK.due("undo()", x.undo(), 11 - i);
            CHECK.due("count(4)", x.count(4), days[top]);
        }
        CHECK.due("undo()", x.undo(), -1);
    }

    private static void theLatest() {
        CHECK.says(24, "The latest is taken back: how many still can be");
        BlendYard x = yard();
        x.days(1);
        x.lay(0, 0, 0, 0, 1);
        x.days(2);
        CHECK.due("undo()", x.undo(), 2);
        CHECK.due("count(4)", x.count(4), 1);
        CHECK.due("pile(0, 1)", x.pile(0, 1), 1);
        CHECK.due("undo()", x.undo(), 1);
        CHECK.due("count(4)", x.count(4), 1);
        CHECK.due("pile(0, 1)", x.pile(0, 1), 0);
        x.days(5);
        CHECK.due("undo()", x.undo(), 1);
        CHECK.due("count(4)", x.count(4), 1);
        CHECK.due("undo()", x.undo(), 0);
        CHECK.due("count(4)", x.count(4), 0);
        CHECK.says(24, "many MINUTES are one thing that was done");
        BlendYard y = yard();
        y.toLay(0, 0, 0, 5, 1);
        y.minutes(200);
        CHECK.due("undo()", y.undo(), 1);
        CHECK.due("count(16)", y.count(16), 0);
        CHECK.due("count(12)", y.count(12), 1);
        CHECK.due("stands(0)", y.stands(0), -1);
        CHECK.due("pile(0, 1)", y.pile(0, 1), 0);
    }

    private static void noneSuch() {
        CHECK.says(25, "false: none such");
        BlendYard x = yard();
        for (int k : new int[] {-1, 2, 3, MIN, MAX}) {
            CHECK.due("image(" + k + ", false)", x.image(k, false), false);
            CHECK.due("image(" + k + ", true)", x.image(k, true), false);
        }
        CHECK.due("count(9)", x.count(9), 0);
        x.image(0, false);
        x.image(1, false);
        x.days(1);
        for (int k : new int[] {-1, 2, MIN, MAX}) {
            CHECK.due("image(" + k + ", true)", x.image(k, true), false);
        }
        CHECK.due("count(9)", x.count(9), 2);
        CHECK.due("count(4)", x.count(4), 1);
        CHECK.due("count(8)", x.count(8), 1);
    }

    private static void nothingIsInIt() {
        CHECK.says(25, "false: (back) nothing is in it");
        BlendYard x = yard();
        x.days(1);
        CHECK.due("image(0, true)", x.image(0, true), false);
        CHECK.due("image(1, true)", x.image(1, true), false);
        CHECK.due("count(8), nothing happens", x.count(8), 1);
        CHECK.due("count(4), nothing happens", x.count(4), 1);
        x.image(1, false);
        CHECK.due("image(0, true)", x.image(0, true), false);
        CHECK.due("image(1, true)", x.image(1, true), true);
        BlendYard y = yard();
        y.image(0, false);
        CHECK.due("image(1, true)", y.image(1, true), false);
        CHECK.due("image(0, true)", y.image(0, true), true);
        CHECK.says(25, "a new object has nothing in its IMAGES, but can lay one");
        BlendYard z = new BlendYard();
        CHECK.due("image(0, true)", z.image(0, true), false);
        CHECK.due("image(0, false)", z.image(0, false), true);
        CHECK.due("image(0, true)", z.image(0, true), true);
        CHECK.due("count(9)", z.count(9), 1);
    }

    private static void nothingCanBeTakenBack() {
        CHECK.says(25, "(back: nothing can be taken back)");
        BlendYard x = yard();
        x.days(1);
        x.days(2);
        CHECK.due("image(0, false)", x.image(0, false), true);
        CHECK.due("count(8), laid", x.count(8), 2);
        x.days(3);
        CHECK.due("undo(), behind an IMAGE that was laid", x.undo(), 2);
        CHECK.due("image(0, true)", x.image(0, true), true);
        CHECK.due("count(8), back", x.count(8), 0);
        CHECK.due("undo()", x.undo(), -1);
        CHECK.due("count(4)", x.count(4), 3);
        x.days(4);
        CHECK.due("count(8)", x.count(8), 1);
        CHECK.due("undo()", x.undo(), 0);
        CHECK.due("count(4)", x.count(4), 3);
        for (int i = 0; i < 15; i++) {
            x.days(1);
        }
        x.image(0, true);
        CHECK.due("undo(), behind 15", x.undo(), -1);
        CHECK.due("count(4)", x.count(4), 3);
    }

    private static void allIsAsInIt() {
        CHECK.says(25, "back: all is as in it");
        for (int what = 0; what < ACTS.length; what++) {
            BlendYard x = busy();
            x.image(what % 2, false);
            String laid = state(x);
            act(x, what);
            CHECK.due(ACTS[what] + " does something", state(x).equals(laid), false);
            CHECK.due("image(.., true)", x.image(what % 2, true), true);
            CHECK.due("all is as ahead of " + ACTS[what], state(x).equals(laid), true);
        }
        BlendYard y = busy();
        String busy = state(y);
        y.image(0, false);
        for (int i = 0; i < 40; i++) {
            act(y, i % ACTS.length);
        }
        y.image(0, true);
        CHECK.due("all is as ahead of forty acts", state(y).equals(busy), true);
        CHECK.says(25, "the ORDERS and the WAY are as in it");
        BlendYard z = yard();
        z.toLay(1, 0, 2, 2, 1);
        z.toCut(0, 3, 1);
        z.minutes(9);
        z.image(0, false);
        z.drop(0);
        z.drop(1);
        z.toLay(0, 0, 0, 0, 1);
        z.minutes(30);
        z.image(0, true);
        CHECK.due("count(12)", z.count(12), 1);
        CHECK.due("count(13)", z.count(13), 1);
        z.minutes(1);
        CHECK.due("stands(0)", z.stands(0), 102);
        CHECK.due("stands(1)", z.stands(1), 3);
    }

    private static void twoImages() {
        CHECK.says(25, "IMAGES 0, 1: each its own");
        BlendYard x = yard();
        x.days(1);
        x.lay(0, 0, 0, 5, 1);
        x.image(0, false);
        x.days(1);
        x.lay(1, 1, 0, 3, 2);
        x.image(1, false);
        CHECK.due("count(9)", x.count(9), 2);
        x.days(1);
        for (int i = 0; i < 2; i++) {
            CHECK.due("image(0, true)", x.image(0, true), true);
            CHECK.due("count(4)", x.count(4), 1);
            CHECK.due("pile(1, 2)", x.pile(1, 2), 0);
            CHECK.due("lot(1, 2)", x.lot(1, 2), 90);
            CHECK.due("count(9), both stay", x.count(9), 2);
            CHECK.due("image(1, true)", x.image(1, true), true);
            CHECK.due("count(4)", x.count(4), 2);
            CHECK.due("pile(1, 2)", x.pile(1, 2), 8);
            CHECK.due("lot(1, 2)", x.lot(1, 2), 82);
        }
        x.image(0, true);
        CHECK.due("image(1, false), laid from image 0", x.image(1, false), true);
        x.days(9);
        x.image(1, true);
        CHECK.due("count(4)", x.count(4), 1);
    }

    private static void laidAnew() {
        CHECK.says(25, "IMAGE k is laid: what was in it is gone");
        BlendYard x = yard();
        x.image(0, false);
        x.days(4);
        x.image(0, false);
        CHECK.due("count(9)", x.count(9), 1);
        x.days(4);
        x.image(0, true);
        CHECK.due("count(4)", x.count(4), 4);
        x.days(4);
        x.image(0, true);
        CHECK.due("count(4), back over and over", x.count(4), 4);
        CHECK.says(25, "what is done later doesn't reach an IMAGE");
        x.lay(0, 0, 0, 5, 3);
        x.image(1, false);
        x.park(0);
        x.cut(0, 2, 1);
        x.lay(0, 1, 4, 5, 3);
        x.toCut(0, 0, 1);
        x.image(1, true);
        CHECK.due("tonnes(0, 0, 2)", x.tonnes(0, 0, 2), 3);
        CHECK.due("pile(0, 1)", x.pile(0, 1), 1);
        CHECK.due("ship(1, 6)", x.ship(1, 6), 0);
        CHECK.due("count(13)", x.count(13), 0);
        x.park(0);
        x.cut(0, 3, 1);
        x.image(1, true);
        CHECK.due("tonnes(0, 0, 3), behind it too", x.tonnes(0, 0, 3), 3);
    }

    private static void allBut() {
        CHECK.says(25, "IMAGES 0, 1 hold all but THE TAPE, what is below");
        BlendYard x = yard();
        x.lay(0, 0, 0, 0, 1);
        x.lay(0, 1, 0, 0, 6);
        x.image(0, false);
        Check.feed(x, "gap 3;");
        x.cell(0, 0);
        x.lay(0, 0, 2, 2, 4);
        x.spread(0);
        x.worst(3, 10);
        CHECK.due("below()", x.below(), 7);
        CHECK.due("spreadBelow()", x.spreadBelow(), 7);
        long worst = x.worstBelow();
        CHECK.due("worstBelow()", worst > 1, true);
        x.image(0, true);
        CHECK.due("count(10), THE TAPE stays", x.count(10), 20);
        CHECK.due("below() stays", x.below(), 7);
        CHECK.due("spreadBelow() stays", x.spreadBelow(), 7);
        CHECK.due("worstBelow() stays", x.worstBelow(), worst);
        CHECK.due("text(6), as fed", x.text(6), 1);
        CHECK.due("count(3)", x.count(3), 3);
        CHECK.says(24, "undo() leaves THE TAPE, what is below");
        BlendYard y = yard();
        y.lay(0, 0, 0, 0, 1);
        y.lay(0, 1, 0, 0, 6);
        Check.feed(y, "gap 3;");
        y.cell(0, 0);
        y.undo();
        y.undo();
        CHECK.due("count(10)", y.count(10), 20);
        CHECK.due("below()", y.below(), 7);
        CHECK.due("count(9)", y.count(9), 0);
    }

    private static void neverTakenBack() {
        CHECK.says(25, "an IMAGE that is laid, or back, can't be taken back");
        BlendYard x = yard();
        x.days(1);
        x.image(0, false);
        CHECK.due("undo() takes the DAY back", x.undo(), 0);
        CHECK.due("count(4)", x.count(4), 0);
        CHECK.due("count(9), the IMAGE stays", x.count(9), 1);
        CHECK.due("image(0, true)", x.image(0, true), true);
        CHECK.due("count(4)", x.count(4), 1);
        CHECK.due("undo()", x.undo(), -1);
        CHECK.due("count(4)", x.count(4), 1);
    }
}
