/** Promises 1 to 4: a new object, feed, text, count; and what a text tells by lot, ship, pile (5 to 7). */
public final class TextTest {
    private static final Check CHECK = new Check("TextTest");
    private static final String WHOLE = "lot iron tonnes 100 grade 600;\nlot coal tonnes 9999 grade 0;"
        + "pile a cells 2;pile b cells 12;ship hull needs 999 low 10 high 10 due 99 load 20 fine 999;"
        + "gap 3;ship boat needs 1 low 0 high 999 due 1 load 1;";

    public static void main(String[] args) {
        newObject();
        feeding();
        told();
        counts();
        anew();
        wayAnew();
        grammar();
        words();
        twice();
        numbers();
        tooMany();
        leastPlace();
        CHECK.end();
    }

    private static void newObject() {
        BlendYard x = new BlendYard();
        int[] want = {0, 0, 0, 1, 0, 0, 0, 0, 0, 0, 0, 0, 0, 0, 0, 0, 0};
        for (int what = 0; what < want.length; what++) {
            CHECK.due(1, "count(" + what + ")", x.count(what), want[what]);
        }
        CHECK.lacks(1, "lot(0, 0)", () -> x.lot(0, 0));
        CHECK.lacks(1, "ship(0, 0)", () -> x.ship(0, 0));
        CHECK.due(1, "pile(0, 0)", x.pile(0, 0), -2);
        CHECK.due(1, "stands(0)", x.stands(0), -1);
        CHECK.due(1, "stands(1)", x.stands(1), -1);
        CHECK.due(1, "below()", x.below(), 1);
        CHECK.due(1, "spreadBelow()", x.spreadBelow(), 1);
        CHECK.due(1, "worstBelow()", x.worstBelow(), 1);
        CHECK.due(1, "NONE", BlendYard.NONE, -1);
    }

    private static void feeding() {
        BlendYard x = new BlendYard();
        for (int i = 1; i <= 30; i++) {
            CHECK.due(2, "feed " + i, x.feed(0x20202020, 0x20202020, 0x20202020, 0x20202020, 0x20202020), 20 * i);
        }
        CHECK.due(2, "feed 31", x.feed(0, 0, 0, 0, 0), -1);
        CHECK.due(2, "count(10)", x.count(10), 600);
        CHECK.due(2, "text(600) of blanks", x.text(600), 0);
        CHECK.due(2, "count(10)", x.count(10), 0);
        // "gap 2;" with the highest byte of each number first, and bytes above 127 behind it.
        CHECK.due(2, "feed", x.feed(0x67617020, 0x323b8081, 0xfffefdfc, 0x80000000, -1), 20);
        CHECK.due(2, "text(6)", x.text(6), 1);
        CHECK.due(2, "count(3)", x.count(3), 2);
        x.feed(0x67617020, 0x323b8081, 0xfffefdfc, 0x80000000, -1);
        CHECK.due(2, "text(7), 128 begins no token", x.text(7), -2 - (8 * 6 + 1));
    }

    private static void told() {
        BlendYard x = new BlendYard();
        Check.feed(x, WHOLE);
        int taped = x.count(10);
        CHECK.due(3, "text(-1)", x.text(-1), -1);
        CHECK.due(3, "text(taped + 1)", x.text(taped + 1), -1);
        CHECK.due(3, "count(10), the tape stays", x.count(10), taped);
        CHECK.due(3, "text(all)", x.text(WHOLE.length()), 7);
        CHECK.due(3, "count(10), the tape is empty", x.count(10), 0);
        CHECK.due(3, "text(1)", x.text(1), -1);
        int[][] lots = {{100, 600, 100}, {9999, 0, 9999}};
        for (int lot = 0; lot < 2; lot++) {
            for (int what = 0; what < 3; what++) {
                CHECK.due(5, "lot(" + lot + ", " + what + ")", x.lot(lot, what), lots[lot][what]);
            }
        }
        int[][] ships = {{999, 10, 10, 99, 20, 999, 0, -1, 0, 0}, {1, 0, 999, 1, 1, 0, 0, -1, 0, 0}};
        for (int ship = 0; ship < 2; ship++) {
            for (int what = 0; what < 10; what++) {
                CHECK.due(6, "ship(" + ship + ", " + what + ")", x.ship(ship, what), ships[ship][what]);
            }
        }
        CHECK.due(7, "pile(0, 0)", x.pile(0, 0), 2);
        CHECK.due(7, "pile(1, 0)", x.pile(1, 0), 12);
        for (int wrong : new int[] {-1, 2, Integer.MIN_VALUE, Integer.MAX_VALUE}) {
            CHECK.lacks(5, "lot(" + wrong + ", 0)", () -> x.lot(wrong, 0));
            CHECK.lacks(6, "ship(" + wrong + ", 0)", () -> x.ship(wrong, 0));
            CHECK.due(7, "pile(" + wrong + ", 0)", x.pile(wrong, 0), -2);
        }
        for (int wrong : new int[] {-1, 3, 10, Integer.MIN_VALUE, Integer.MAX_VALUE}) {
            CHECK.lacks(5, "lot(0, " + wrong + ")", () -> x.lot(0, wrong));
            CHECK.due(7, "pile(0, " + wrong + ")", x.pile(0, wrong), -2);
        }
        CHECK.lacks(6, "ship(0, -1)", () -> x.ship(0, -1));
        CHECK.lacks(6, "ship(0, 10)", () -> x.ship(0, 10));
    }

    private static void counts() {
        BlendYard x = Check.yard(WHOLE);
        int[] want = {2, 2, 2, 3, 0, 0, 0, 0, 0, 0, 0, 0, 0, 0, 0, 0, 0};
        for (int what = 0; what < want.length; what++) {
            CHECK.due(4, "count(" + what + ")", x.count(what), want[what]);
        }
        for (int wrong : new int[] {-1, 17, Integer.MIN_VALUE, Integer.MAX_VALUE}) {
            CHECK.due(4, "count(" + wrong + ")", x.count(wrong), -1);
        }
    }

    /** What was done is gone with the next text that has no fault, and stays with one that has. */
    private static void anew() {
        BlendYard x = Check.yard("lot a tonnes 99 grade 7;lot b tonnes 9 grade 1;pile p cells 3;"
            + "ship s needs 5 low 0 high 999 due 1 load 1;gap 0;");
        x.lay(0, 0, 0, 2, 3);
        x.lay(0, 1, 0, 0, 4);
        x.park(0);
        x.cut(0, 0, 0);
        x.days(5);
        x.sail(0);
        x.toLay(0, 0, 0, 0, 1);
        x.toCut(0, 0, 0);
        x.minutes(11);
        x.toCut(0, 1, 0);
        x.cell(0, 1);
        x.hold(0);
        x.lay(0, 1, 1, 1, 2);
        x.spread(0);
        x.worst(3, 2);
        x.image(0, false);
        CHECK.due(3, "below()", x.below(), 7);
        CHECK.due(3, "spreadBelow()", x.spreadBelow(), 5);
        CHECK.due(3, "count(9)", x.count(9), 1);
        CHECK.due(3, "text of a fault", Check.tell(x, "gap 4;"), -2 - (8 * 4 + 3));
        CHECK.due(3, "count(10), the tape is empty", x.count(10), 0);
        CHECK.due(3, "count(9), all else stays", x.count(9), 1);
        CHECK.due(3, "count(0), all else stays", x.count(0), 2);
        CHECK.due(3, "count(3), all else stays", x.count(3), 0);
        CHECK.due(3, "count(8), all else stays", x.count(8), 11);
        CHECK.due(3, "pile(0, 1), all else stays", x.pile(0, 1), 3);
        CHECK.due(3, "text anew", Check.tell(x, "lot c tonnes 50 grade 7;pile q cells 3;ship t needs 5 low 0 high 9 due 1 load 1;"), 3);
        int[] want = {1, 1, 1, 1, 0, 0, 0, 0, 0, 0, 0, 0, 0, 0, 0, 0, 0};
        for (int what = 0; what < want.length; what++) {
            CHECK.due(3, "count(" + what + ") as at first", x.count(what), want[what]);
        }
        CHECK.due(3, "lot(0, 2)", x.lot(0, 2), 50);
        CHECK.due(3, "ship(0, 6)", x.ship(0, 6), 0);
        CHECK.due(3, "ship(0, 7)", x.ship(0, 7), -1);
        CHECK.due(3, "hold(0)", x.hold(0), -2);
        CHECK.due(3, "pile(0, 1)", x.pile(0, 1), 0);
        x.lay(0, 0, 0, 0, 4);
        x.park(0);
        x.cut(0, 0, 0);
        CHECK.due(3, "hold(0), nothing of the ore ahead of the text", x.hold(0), 7);
        CHECK.due(3, "below()", x.below(), 1);
        x.undo();
        x.undo();
        x.undo();
        CHECK.due(3, "stands(0)", x.stands(0), -1);
        CHECK.due(3, "stands(1)", x.stands(1), -1);
        CHECK.due(3, "undo()", x.undo(), -1);
        CHECK.due(3, "image(0, true)", x.image(0, true), false);
        CHECK.due(3, "below()", x.below(), 1);
        CHECK.due(3, "spreadBelow()", x.spreadBelow(), 1);
        CHECK.due(3, "worstBelow()", x.worstBelow(), 1);
        Check.feed(x, "lot c tonnes 50");
        CHECK.due(3, "text(0)", x.text(0), 0);
        CHECK.due(3, "count(10)", x.count(10), 0);
        for (int what = 0; what < 3; what++) {
            CHECK.due(3, "count(" + what + ")", x.count(what), 0);
        }
        String again = "lot a tonnes 9 grade 1;pile b cells 2;ship c needs 5 low 0 high 9 due 1 load 1;";
        CHECK.due(3, "a text", Check.tell(x, again), 3);
        CHECK.due(3, "the same text again", Check.tell(x, again), 3);
        CHECK.due(3, "its lines the other way round", Check.tell(x, "pile b cells 2;lot a tonnes 9 grade 1;"), 2);
        CHECK.due(3, "pile(1, 0)", x.pile(1, 0), -2);
    }

    /** A way that was begun ahead of the text is not gone on with. */
    private static void wayAnew() {
        String yard = "lot a tonnes 99 grade 7;pile p cells 3;ship s needs 5 low 0 high 9 due 1 load 1;";
        BlendYard x = Check.yard(yard);
        for (int i = 0; i < 2; i++) {
            x.toLay(0, 0, 0, 0, 1);
            x.toCut(0, 2, 0);
            x.minutes(9);
            CHECK.due(3, "stands(0)", x.stands(0), -1);
            CHECK.due(3, "stands(1)", x.stands(1), -1);
            CHECK.due(3, "text", Check.tell(x, yard), 3);
        }
    }

    private static void fault(String text, int place, int kind) {
        CHECK.due(3, "text of '" + text + "'", Check.tell(new BlendYard(), text), -2 - (8 * place + kind));
    }

    private static void fits(String text, int lines) {
        CHECK.due(3, "text of '" + text + "'", Check.tell(new BlendYard(), text), lines);
    }

    private static void grammar() {
        fits("", 0);
        fits(" \n ", 0);
        fits("gap 0;", 1);
        fits("gap0;", 1);
        fits("lotatonnes;", -2 - (8 * 0 + 1));
        fits("lot a tonnes1grade2;pile b cells3;gap1;", 3);
        fits("lot abcdef tonnes\n1\n grade 0 ;", 1);
        fits("ship a needs 1 low 0 high 0 due 1 load 1 fine 0;", 1);
        fits("ship a needs0001 low 0 high 0 due 1 load 1;", 1);
        fault(";", 0, 1);
        fault("7", 0, 1);
        fault(" iron", 1, 1);
        fault("lots a", 0, 1);
        fault("gap 1; #", 7, 1);
        fault("gap\t1;", 3, 1);
        fault("Gap 1;", 0, 1);
        fault("gaP 1;", 0, 1);
        fault("gap 1:", 5, 1);
        fault("gap", 3, 1);
        fault("gap ", 4, 1);
        fault("gap 1", 5, 1);
        fault("gap 1 \n", 7, 1);
        fault("gap one;", 4, 1);
        fault("gap ;", 4, 1);
        fault("gap 1 2;", 6, 1);
        fault("gap 1;;", 6, 1);
        fault("lot abcdefg tonnes 1 grade 1;", 4, 1);
        fault("lot 1 tonnes 1 grade 1;", 4, 1);
        fault("lot ;", 4, 1);
        fault("lot tonnes 1 grade 1;", 4, 1);
        String[] kept = {"lot", "pile", "ship", "gap", "tonnes", "grade", "cells", "needs", "low", "high", "due", "load", "fine"};
        for (String word : kept) {
            fault("pile " + word + " cells 2;", 5, 1);
            fault("pile " + word, 5, 1);
        }
        fits("pile lo cells 2;pile lott cells 3;pile gaps cells 4;", 3);
        fault("lot a tonne 1 grade 1;", 6, 1);
        fault("lot a tonness 1 grade 1;", 6, 1);
        fault("lot a grade 1 tonnes 1;", 6, 1);
        fault("lot a tonnes 1 grade 1 grade 1;", 23, 1);
        fault("pile a cells 2 fine 2;", 15, 1);
        fault("ship a needs 1 low 0 high 0 due 1 fine 3 load 1;", 34, 1);
        fault("ship a needs 1 low 0 high 0 due 1 load 1 fine;", 45, 1);
        fault("ship a needs 1 low 0 high 0 due 1 load 1 fine 3 fine 3;", 48, 1);
        fault("ship a needs 1 low 0 high 0 due 1 load 1", 40, 1);
        fault("ship a needs 1 low 0 due 1 load 1;", 21, 1);
        fault("lot a tonnes 1 grade 1;lot b tonnes 12", 38, 1);
    }

    /** Each letter of each word that a line needs, changed. */
    private static void words() {
        String text = "lot aq tonnes 1 grade 1;pile bq cells 2;ship cq needs 1 low 0 high 0 due 1 load 1 fine 1;gap 1;";
        fits(text, 4);
        int start = 0;
        for (int i = 0; i < text.length(); i++) {
            boolean letter = Character.isLetter(text.charAt(i));
            boolean first = letter && (i == 0 || !Character.isLetter(text.charAt(i - 1)));
            start = first ? i : start;
            if (letter && text.charAt(start + 1) != 'q') {
                char other = text.charAt(i) == 'z' ? 'y' : 'z';
                fault(text.substring(0, i) + other + text.substring(i + 1), start, 1);
            }
        }
    }

    private static void twice() {
        fault("lot a tonnes 1 grade 1;lot a tonnes 1 grade 1;", 27, 2);
        fault("lot a tonnes 1 grade 1;pile a cells 2;", 28, 2);
        fault("pile ab cells 2;ship ab needs", 21, 2);
        fault("pile ab cells 2;pile ab\ncells 2;", 21, 2);
        fault("pile a cells 2;lot\na\n;", 19, 2);
        fits("pile ab cells 2;pile ba cells 2;pile a cells 2;lot b tonnes 1 grade 1;", 4);
        fits("pile az cells 2;pile ba cells 2;lot zzzzzz tonnes 1 grade 1;lot zzzzz tonnes 1 grade 1;", 4);
        fault("gap 1;gap 1;", 6, 2);
        fault("gap 1; gap", 7, 2);
        fault("gap 1;pile a cells 2;gap 9;", 21, 2);
    }

    private static void numbers() {
        String[] ends = {"lot a tonnes 1 grade 0;", "lot a tonnes 9999 grade 999;", "pile a cells 2;", "pile a cells 12;",
            "ship a needs 1 low 0 high 0 due 1 load 1 fine 0;", "ship a needs 999 low 999 high 999 due 99 load 20 fine 999;",
            "gap 0;", "gap 3;", "ship a needs 5 low 5 high 999 due 5 load 5 fine 0000;"};
        for (String text : ends) {
            fits(text, 1);
        }
        fault("lot a tonnes 0 grade 1;", 13, 3);
        fault("lot a tonnes 10000 grade 1;", 13, 3);
        fault("lot a tonnes 00001 grade 1;", 13, 3);
        fault("lot a tonnes 99999999999999999999 grade 1;", 13, 3);
        fault("lot a tonnes 4294967297 grade 1;", 13, 3);
        fault("lot a tonnes 1 grade 1000;", 21, 3);
        fault("lot a tonnes 1 grade 1000", 21, 3);
        fault("pile a cells 1;", 13, 3);
        fault("pile a cells 13;", 13, 3);
        fault("gap 4;", 4, 3);
        fault("ship a needs 0 low 0 high 0 due 1 load 1;", 13, 3);
        fault("ship a needs 1000 low 0 high 0 due 1 load 1;", 13, 3);
        fault("ship a needs 1 low 1000 high 0 due 1 load 1;", 19, 3);
        fault("ship a needs 1 low 5 high 4 due 1 load 1;", 26, 3);
        fault("ship a needs 1 low 5 high 1000 due 1 load 1;", 26, 3);
        fault("ship a needs 1 low 0 high 0 due 0 load 1;", 32, 3);
        fault("ship a needs 1 low 0 high 0 due 100 load 1;", 32, 3);
        fault("ship a needs 1 low 0 high 0 due 1 load 0;", 39, 3);
        fault("ship a needs 1 low 0 high 0 due 1 load 21;", 39, 3);
        fault("ship a needs 1 low 0 high 0 due 1 load 1 fine 1000;", 46, 3);
    }

    private static String lots(int n) {
        StringBuilder all = new StringBuilder();
        for (int i = 0; i < n; i++) {
            all.append("lot ").append((char) ('a' + i)).append(" tonnes 1 grade 1;");
        }
        return all.toString();
    }

    private static String ships(int n) {
        StringBuilder all = new StringBuilder();
        for (int i = 0; i < n; i++) {
            all.append("ship ").append((char) ('a' + i)).append(" needs 1 low 0 high 0 due 1 load 1;");
        }
        return all.toString();
    }

    private static void tooMany() {
        fits(lots(12), 12);
        fault(lots(13), 12 * 23, 4);
        fault(lots(12) + " lot", 12 * 23 + 1, 4);
        fault(lots(12) + "lot a", 12 * 23, 4);
        fits("pile a cells 2;pile b cells 2;pile c cells 2;", 3);
        fault("pile a cells 2;pile b cells 2;pile c cells 2;pile c cells 1;", 45, 4);
        fits(ships(8), 8);
        fault(ships(9), 8 * 41, 4);
        fits(lots(12) + "gap 1;pile x cells 2;pile y cells 2;pile z cells 2;ship s needs 1 low 0 high 0 due 1 load 1;", 17);
    }

    private static void leastPlace() {
        fault("gap 9;#", 4, 3);
        fault("#gap 9;", 0, 1);
        fault("gap 1;gap 9;gap #", 6, 2);
        fault("lot a tonnes 1 grade 1000 ;lot a", 21, 3);
        fault("lot a tonnes 1 grade 1;lot a tonnes 0", 27, 2);
        fault("pile a cells 2;pile b cells 2;pile c cells 2;pile lot cells 1;", 45, 4);
    }
}
