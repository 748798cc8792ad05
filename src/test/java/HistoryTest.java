/** Promises 24 and 25: what was done taken back, and images. */
public final class HistoryTest {
    private static final Check CHECK = new Check("HistoryTest");
    private static final String YARD = "lot a tonnes 500 grade 10;lot b tonnes 90 grade 25;pile p cells 6;pile q cells 4;"
        + "ship s needs 10 low 0 high 999 due 5 load 1 fine 7;ship t needs 999 low 0 high 999 due 5 load 1;gap 1;";

    public static void main(String[] args) {
        each();
        twelve();
        refused();
        images();
        otherLots();
        waited();
        notHeld();
        CHECK.end();
    }

    /** All that tells of the state, for one run of numbers. */
    private static long[] all(BlendYard x) {
        StringBuilder told = new StringBuilder();
        for (int what = 0; what < 17; what++) {
            told.append(what == 8 || what == 9 || what == 10 ? 0 : x.count(what)).append(' ');
        }
        for (int i = 0; i < 2; i++) {
            told.append(x.lot(i, 2)).append(' ').append(x.ship(i, 6)).append(' ').append(x.ship(i, 7)).append(' ');
            told.append(x.ship(i, 8)).append(' ').append(x.stands(i)).append(' ').append(x.pile(i, 1)).append(' ');
            for (int layer = 0; layer < 4; layer++) {
                told.append(x.layer(i, layer, 0)).append(' ').append(x.layer(i, layer, 1)).append(' ');
                told.append(x.layer(i, layer, 2)).append(' ');
            }
        }
        told.append(x.ends()).append(' ').append(x.cost(0)).append(' ').append(x.cost(1)).append(' ').append(x.hold(0));
        String[] parts = told.toString().split(" ");
        long[] numbers = new long[parts.length];
        for (int i = 0; i < parts.length; i++) {
            numbers[i] = Long.parseLong(parts[i]);
        }
        return numbers;
    }

    private static void alike(int promise, String what, long[] got, long[] want) {
        for (int i = 0; i < want.length; i++) {
            CHECK.due(promise, what + ", number " + i, got[i], want[i]);
        }
    }

    private static int act(BlendYard x, int what) {
        switch (what) {
            case 0: return x.lay(0, 0, 0, 5, 4);
            case 1: return x.lay(0, 1, 2, 5, 4);
            case 2: return x.park(0) ? 1 : 0;
            case 3: return x.cut(0, 3, 0);
            case 4: return x.toLay(1, 0, 0, 3, 5);
            case 5: return x.toCut(0, 2, 0);
            case 6: return x.minutes(12);
            case 7: return x.days(9);
            case 8: return x.sail(0);
            case 9: return x.drop(0);
            case 10: return x.toLay(0, 1, 0, 0, 3);
            default: return x.minutes(3);
        }
    }

    private static final int[] DUE = {15, 6, 1, 8, 1, 1, 0, 9, 4, 1, 1, 0};

    private static BlendYard acted(int acts) {
        BlendYard x = Check.yard(YARD);
        for (int i = 0; i < acts; i++) {
            CHECK.due(24, "act " + i, act(x, i), DUE[i]);
            CHECK.due(4, "count(8)", x.count(8), i + 1);
        }
        return x;
    }

    /** All twelve acts are done, some taken back, then done once more. */
    private static void each() {
        long[] last = all(acted(12));
        for (int kept = 0; kept < 12; kept++) {
            BlendYard x = acted(12);
            for (int i = 11; i >= kept; i--) {
                CHECK.due(24, "undo()", x.undo(), i);
                CHECK.due(24, "count(8)", x.count(8), i);
            }
            alike(24, "taken back to act " + kept, all(x), all(acted(kept)));
            for (int i = kept; i < 12; i++) {
                CHECK.due(24, "act " + i + " once more", act(x, i), DUE[i]);
            }
            alike(24, "all once more", all(x), last);
            for (int i = 11; i >= 0; i--) {
                CHECK.due(24, "undo()", x.undo(), i);
            }
            CHECK.due(24, "undo(), none", x.undo(), -1);
        }
    }

    private static void twelve() {
        BlendYard x = Check.yard(YARD);
        for (int i = 1; i <= 30; i++) {
            x.days(i);
            CHECK.due(24, "count(8)", x.count(8), Math.min(i, 12));
        }
        CHECK.due(24, "count(4)", x.count(4), 465);
        int day = 465;
        for (int i = 30; i > 18; i--) {
            CHECK.due(24, "undo()", x.undo(), i - 19);
            day -= i;
            CHECK.due(24, "count(4)", x.count(4), day);
        }
        CHECK.due(24, "undo(), 12 at most", x.undo(), -1);
        CHECK.due(24, "count(4)", x.count(4), 171);
        x.days(2);
        x.days(3);
        CHECK.due(24, "undo()", x.undo(), 1);
        x.days(4);
        CHECK.due(24, "undo()", x.undo(), 1);
        CHECK.due(24, "undo()", x.undo(), 0);
        CHECK.due(24, "count(4)", x.count(4), 171);
    }

    private static void refused() {
        BlendYard x = Check.yard(YARD);
        x.lay(9, 0, 0, 0, 1);
        x.cut(0, 0, 0);
        x.park(0);
        x.sail(0);
        x.days(0);
        x.toLay(9, 0, 0, 0, 1);
        x.toCut(9, 0, 0);
        x.drop(0);
        x.minutes(0);
        x.image(0, false);
        x.image(1, true);
        CHECK.due(24, "count(8), nothing was done", x.count(8), 0);
        CHECK.due(24, "undo()", x.undo(), -1);
    }

    private static void images() {
        BlendYard x = Check.yard(YARD);
        for (int w : new int[] {-1, 2, Integer.MIN_VALUE, Integer.MAX_VALUE}) {
            CHECK.due(25, "image(" + w + ", false)", x.image(w, false), false);
            CHECK.due(25, "image(" + w + ", true)", x.image(w, true), false);
        }
        CHECK.due(25, "image(0, true), nothing is in it", x.image(0, true), false);
        CHECK.due(25, "image(1, true), nothing is in it", x.image(1, true), false);
        for (int i = 0; i < 7; i++) {
            act(x, i);
        }
        long[] early = all(x);
        CHECK.due(25, "image(0, false)", x.image(0, false), true);
        CHECK.due(4, "count(9)", x.count(9), 1);
        CHECK.due(25, "count(8), it stays", x.count(8), 7);
        CHECK.due(25, "image(1, true), nothing is in it", x.image(1, true), false);
        for (int i = 7; i < 12; i++) {
            act(x, i);
        }
        long[] late = all(x);
        CHECK.due(25, "image(1, false)", x.image(1, false), true);
        CHECK.due(4, "count(9)", x.count(9), 2);
        CHECK.due(25, "image(0, true)", x.image(0, true), true);
        alike(25, "all as in image 0", all(x), early);
        CHECK.due(25, "count(8), nothing can be taken back", x.count(8), 0);
        CHECK.due(25, "undo()", x.undo(), -1);
        CHECK.due(25, "image(1, true)", x.image(1, true), true);
        alike(25, "all as in image 1", all(x), late);
        x.days(3);
        x.lay(0, 0, 0, 0, 9);
        CHECK.due(25, "image(1, true) again", x.image(1, true), true);
        alike(25, "all as in image 1", all(x), late);
        CHECK.due(25, "image(0, false), laid anew", x.image(0, false), true);
        x.days(1);
        CHECK.due(25, "image(0, true)", x.image(0, true), true);
        alike(25, "all as in image 0, laid anew", all(x), late);
        CHECK.due(4, "count(9)", x.count(9), 2);
        x.days(1);
        x.undo();
        CHECK.due(25, "count(9), undo() leaves the images", x.count(9), 2);
    }

    /** The lot of a layer goes back too. */
    private static void otherLots() {
        BlendYard x = Check.yard(YARD);
        x.lay(0, 0, 0, 0, 4);
        x.lay(1, 0, 0, 0, 4);
        x.image(1, false);
        x.undo();
        x.undo();
        x.lay(0, 1, 0, 0, 4);
        x.lay(1, 1, 0, 0, 4);
        CHECK.due(25, "cell(0, 0)", x.cell(0, 0), 25);
        CHECK.due(25, "cell(1, 0)", x.cell(1, 0), 25);
        x.image(0, false);
        x.image(1, true);
        CHECK.due(25, "layer(0, 0, 0)", x.layer(0, 0, 0), 0);
        CHECK.due(25, "cell(1, 0)", x.cell(1, 0), 10);
        x.lay(0, 0, 0, 0, 4);
        x.image(0, true);
        CHECK.due(25, "layer(0, 0, 0)", x.layer(0, 0, 0), 1);
        CHECK.due(25, "cell(1, 0)", x.cell(1, 0), 25);
    }

    private static void waited() {
        BlendYard x = Check.yard(YARD);
        x.lay(0, 0, 0, 5, 4);
        x.toCut(0, 5, 0);
        x.toCut(0, 4, 0);
        x.minutes(14);
        CHECK.due(24, "count(15)", x.count(15), 4);
        x.image(0, false);
        x.minutes(5);
        CHECK.due(24, "count(15)", x.count(15), 9);
        CHECK.due(24, "undo()", x.undo(), 4);
        CHECK.due(24, "count(15)", x.count(15), 4);
        CHECK.due(24, "count(16)", x.count(16), 14);
        x.undo();
        CHECK.due(24, "count(15)", x.count(15), 0);
        x.minutes(9);
        x.undo();
        x.minutes(9);
        x.park(0);
        CHECK.due(24, "stands(1)", x.stands(1), -1);
        x.minutes(1);
        CHECK.due(24, "stands(1)", x.stands(1), 5);
        x.image(0, true);
        CHECK.due(25, "count(15)", x.count(15), 4);
        CHECK.due(25, "stands(1)", x.stands(1), -1);
    }

    /** Neither the tape nor what is below goes back. */
    private static void notHeld() {
        BlendYard x = Check.yard(YARD);
        x.image(0, false);
        x.lay(0, 0, 0, 2, 4);
        x.lay(0, 1, 2, 2, 1);
        x.cell(0, 2);
        CHECK.due(29, "below()", x.below(), 1);
        x.lay(0, 1, 2, 2, 2);
        x.cell(0, 2);
        CHECK.due(29, "below()", x.below(), 7);
        x.spread(0);
        x.worst(3, 11);
        long worst = x.worstBelow();
        CHECK.due(36, "worstBelow()", worst, 115);
        Check.feed(x, "gap 1;");
        x.undo();
        CHECK.due(24, "below(), it stays", x.below(), 7);
        CHECK.due(24, "spreadBelow(), it stays", x.spreadBelow(), 7);
        x.image(0, true);
        CHECK.due(25, "below(), it stays", x.below(), 7);
        CHECK.due(25, "spreadBelow(), it stays", x.spreadBelow(), 7);
        CHECK.due(25, "worstBelow(), it stays", x.worstBelow(), worst);
        CHECK.due(25, "count(10), the tape stays", x.count(10), 20);
        CHECK.due(25, "pile(0, 1)", x.pile(0, 1), 0);
    }
}
