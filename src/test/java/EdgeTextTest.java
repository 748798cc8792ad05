/** Promises 1 to 3 and the first of the terms: each sentence that names an edge of THE TAPE or of a TEXT. */
public final class EdgeTextTest {
    private static final Check CHECK = new Check("EdgeTextTest");
    private static final int BLANKS = 0x20202020;
    private static final String[] KEPT = {"lot", "pile", "ship", "gap", "tonnes", "grade", "cells", "needs", "low", "high",
        "due", "load", "fine"};

    public static void main(String[] args) {
        aNewObject();
        theTapeFills();
        highestFirst();
        firstBytes();
        notSoMany();
        asAtFirst();
        allElseStays();
        blanks();
        tokens();
        anyNumberOfLines();
        linesOfEachKind();
        bounds();
        highFromLow();
        fineIsLeftOut();
        gapOnce();
        names();
        noTwoAlike();
        numberedAsTold();
        noTextGoesOn();
        theEnd();
        aNumberThatCannotBe();
        oneTooMany();
        leastPlace();
        CHECK.end();
    }

    private static int feedBlanks(BlendYard x) {
        return x.feed(BLANKS, BLANKS, BLANKS, BLANKS, BLANKS);
    }

    private static void fits(String text, int lines) {
        CHECK.due("'" + text + "'", Check.tell(new BlendYard(), text), lines);
    }

    private static void fault(String text, int place, int kind) {
        CHECK.due("'" + text + "'", Check.tell(new BlendYard(), text), -2 - (8 * place + kind));
    }

    private static void aNewObject() {
        BlendYard x = new BlendYard();
        CHECK.says(1, "No LOTS, PILES, SHIPS");
        for (int what = 0; what < 3; what++) {
            CHECK.due("count(" + what + ")", x.count(what), 0);
        }
        CHECK.lacks("lot(0, 0)", () -> x.lot(0, 0));
        CHECK.lacks("ship(0, 0)", () -> x.ship(0, 0));
        CHECK.due("pile(0, 0)", x.pile(0, 0), -2);
        CHECK.due("layer(0, 0, 0)", x.layer(0, 0, 0), -2);
        CHECK.due("tonnes(0, 0, 0)", x.tonnes(0, 0, 0), -2);
        CHECK.due("whyLay", x.whyLay(0, 0, 0, 0, 1), 1);
        CHECK.due("lay", x.lay(0, 0, 0, 0, 1), -1);
        CHECK.due("whyCut", x.whyCut(0, 0, 0), 1);
        CHECK.due("cut", x.cut(0, 0, 0), -1);
        CHECK.due("sail", x.sail(0), -1);
        CHECK.due("toLay", x.toLay(0, 0, 0, 0, 1), -1);
        CHECK.due("toCut", x.toCut(0, 0, 0), -1);
        CHECK.due("cell", x.cell(0, 0), -1);
        CHECK.due("whole", x.whole(0), -1);
        CHECK.due("hold", x.hold(0), -1);
        CHECK.due("within", x.within(0, 0, 999), -1);
        CHECK.due("spread", x.spread(0), -1);
        CHECK.due("ifLaid", x.ifLaid(0, 0, 0, 0, 1, 0), -1);
        CHECK.due("layOrder", x.layOrder(3, 0, 0), -1);
        CHECK.due("worst", x.worst(3, 0), -1);
        CHECK.due("next", x.next(0, 1, 0), -1);
        CHECK.due("way", x.way(0, 0, 0), -1);
        CHECK.due("fewest", x.fewest(), 0);
        CHECK.due("order(0)", x.order(0), -2);
        CHECK.due("order(NONE)", x.order(BlendYard.NONE), 0);
        CHECK.due("ready", x.ready(0), -1);
        CHECK.due("cost(0)", x.cost(0), 0);
        CHECK.due("cost(1)", x.cost(1), 0);
        for (int machine = 0; machine < 2; machine++) {
            CHECK.due("stands(" + machine + ")", x.stands(machine), -1);
        }
        for (int what = 5; what < 17; what++) {
            CHECK.due("count(" + what + ")", x.count(what), 0);
        }
        CHECK.says(1, "gap 1, DAY 0");
        CHECK.due("count(3)", x.count(3), 1);
        CHECK.due("count(4)", x.count(4), 0);
    }

    private static void theTapeFills() {
        BlendYard x = new BlendYard();
        CHECK.says(2, "Twenty bytes come behind THE TAPE: how many it has");
        CHECK.due("count(10), none yet", x.count(10), 0);
        for (int i = 1; i <= 29; i++) {
            CHECK.due("feed " + i, feedBlanks(x), 20 * i);
        }
        CHECK.says(2, "THE TAPE has 600 bytes: the last twenty have room");
        // "gap 2;" as bytes 580 to 585.
        CHECK.due("feed 30", x.feed(0x67617020, 0x323b2020, BLANKS, BLANKS, BLANKS), 600);
        CHECK.due("count(10)", x.count(10), 600);
        CHECK.says(2, "NONE, and none come, if it would have more than 600");
        CHECK.due("feed 31", x.feed(0x67617020, 0x333b6761, 0x7020333b, 0x23232323, 0x23232323), -1);
        CHECK.due("feed 32", x.feed(-1, -1, -1, -1, -1), -1);
        CHECK.due("count(10)", x.count(10), 600);
        CHECK.due("text(601)", x.text(601), -1);
        CHECK.due("text(600)", x.text(600), 1);
        CHECK.due("count(3), as bytes 580 to 585 told it", x.count(3), 2);
        CHECK.says(2, "Twenty bytes come behind THE TAPE, which is empty then");
        CHECK.due("count(10)", x.count(10), 0);
        CHECK.due("feed", feedBlanks(x), 20);
    }

    private static void highestFirst() {
        CHECK.says(2, "of each number the highest first");
        BlendYard x = new BlendYard();
        // "pile abcd cells 12;gap 3;" with blanks of both kinds behind it, each number other bytes.
        CHECK.due("feed", x.feed(0x70696c65, 0x20616263, 0x64206365, 0x6c6c7320, 0x31323b67), 20);
        CHECK.due("feed", x.feed(0x61702033, 0x3b200a20, BLANKS, BLANKS, 0x0a0a0a0a), 40);
        CHECK.due("text(40)", x.text(40), 2);
        CHECK.due("pile(0, 0)", x.pile(0, 0), 12);
        CHECK.due("count(3)", x.count(3), 3);
        CHECK.says(2, "a number below 0 has bytes too");
        BlendYard y = new BlendYard();
        y.feed(BLANKS, 0x202020ff, 0x80000000, -1, Integer.MAX_VALUE);
        CHECK.due("text(8), 255 begins no TOKEN", y.text(8), -2 - (8 * 7 + 1));
        y.feed(BLANKS, 0x20202020, 0x80000000, -1, Integer.MAX_VALUE);
        CHECK.due("text(9), 128 begins no TOKEN", y.text(9), -2 - (8 * 8 + 1));
    }

    private static void firstBytes() {
        CHECK.says(3, "The first n bytes of THE TAPE (it is empty then) are the TEXT");
        BlendYard x = new BlendYard();
        Check.feed(x, "gap 2;gap 3;########");
        CHECK.due("text(6), those behind don't count", x.text(6), 1);
        CHECK.due("count(3)", x.count(3), 2);
        CHECK.due("count(10), those behind are gone too", x.count(10), 0);
        CHECK.due("text(1)", x.text(1), -1);
        Check.feed(x, "gap 2;gap 3;########");
        CHECK.due("text(5), a byte less", x.text(5), -2 - (8 * 5 + 1));
        CHECK.due("count(10), it is empty behind a FAULT, too", x.count(10), 0);
        CHECK.says(3, "The first n bytes: n is 0");
        Check.feed(x, "####################");
        CHECK.due("text(0)", x.text(0), 0);
        CHECK.due("count(10)", x.count(10), 0);
        CHECK.due("count(3)", x.count(3), 1);
        CHECK.due("text(0) of an empty TAPE", x.text(0), 0);
    }

    private static void notSoMany() {
        CHECK.says(3, "NONE: it has not so many, n is below 0 (THE TAPE stays)");
        BlendYard x = Check.yard("gap 3;");
        for (int w : new int[] {1, -1, Integer.MIN_VALUE, Integer.MAX_VALUE}) {
            CHECK.due("text(" + w + ") of an empty TAPE", x.text(w), -1);
        }
        Check.feed(x, "gap 2;              ");
        for (int w : new int[] {21, 22, 600, 601, -1, -20, Integer.MIN_VALUE, Integer.MAX_VALUE}) {
            CHECK.due("text(" + w + ") of 20 bytes", x.text(w), -1);
            CHECK.due("count(10)", x.count(10), 20);
            CHECK.due("count(3), nothing was told", x.count(3), 3);
        }
        CHECK.due("text(20)", x.text(20), 1);
        CHECK.due("count(3)", x.count(3), 2);
    }

    private static final String USED = "lot a tonnes 99 grade 7;lot b tonnes 9 grade 1;pile p cells 3;"
        + "ship s needs 3 low 0 high 999 due 1 load 1;gap 0;";

    private static BlendYard used() {
        BlendYard x = Check.yard(USED);
        x.lay(0, 0, 0, 2, 3);
        x.lay(0, 1, 1, 1, 4);
        x.cut(0, 0, 0);
        x.days(5);
        x.sail(0);
        x.toLay(0, 1, 1, 1, 1);
        x.toLay(0, 0, 0, 0, 1);
        x.toCut(0, 1, 0);
        x.minutes(5);
        x.image(0, false);
        x.image(1, false);
        x.whole(0);
        x.spread(0);
        x.worst(3, 2);
        return x;
    }

    private static void asAtFirst() {
        CHECK.says(3, "all is as at first");
        BlendYard x = used();
        int[] before = {2, 1, 1, 0, 5, 1, 13, 10, 9, 2, 0, 1, 1, 1, 4, 5, 5};
        for (int what = 0; what < before.length; what++) {
            CHECK.due("count(" + what + ") ahead of it", x.count(what), before[what]);
        }
        CHECK.due("below() ahead of it", x.below(), 11);
        CHECK.due("spreadBelow() ahead of it", x.spreadBelow(), 4);
        CHECK.due("worstBelow() ahead of it", x.worstBelow(), 47);
        CHECK.due("text", Check.tell(x, USED), 5);
        int[] want = {2, 1, 1, 0, 0, 0, 0, 0, 0, 0, 0, 0, 0, 0, 0, 0, 0};
        for (int what = 0; what < want.length; what++) {
            CHECK.due("count(" + what + ")", x.count(what), want[what]);
        }
        for (int machine = 0; machine < 2; machine++) {
            CHECK.due("stands(" + machine + ")", x.stands(machine), -1);
        }
        CHECK.due("pile(0, 1)", x.pile(0, 1), 0);
        CHECK.due("pile(0, 2)", x.pile(0, 2), 0);
        CHECK.due("lot(0, 2)", x.lot(0, 2), 99);
        CHECK.due("lot(1, 2)", x.lot(1, 2), 9);
        CHECK.due("ship(0, 6)", x.ship(0, 6), 0);
        CHECK.due("ship(0, 7)", x.ship(0, 7), -1);
        CHECK.due("ship(0, 8)", x.ship(0, 8), 0);
        CHECK.due("hold(0)", x.hold(0), -2);
        CHECK.due("below()", x.below(), 1);
        CHECK.due("spreadBelow()", x.spreadBelow(), 1);
        CHECK.due("worstBelow()", x.worstBelow(), 1);
        x.lay(0, 1, 0, 0, 3);
        x.park(0);
        x.cut(0, 0, 0);
        CHECK.due("hold(0), nothing of what was in it", x.hold(0), 1);
        CHECK.due("below()", x.below(), 1);
        CHECK.due("gap 1 without, whatever it was", Check.tell(x, "pile p cells 3;"), 1);
        CHECK.due("count(3)", x.count(3), 1);
        CHECK.says(3, "all is as at first: the WAYS are 0");
        for (int i = 0; i < 3; i++) {
            CHECK.due("text", Check.tell(x, USED), 5);
            x.toLay(0, 0, 0, 0, 1);
            x.toCut(0, 2, 0);
            x.minutes(9);
            CHECK.due("stands(0)", x.stands(0), -1);
            CHECK.due("stands(1)", x.stands(1), -1);
        }
        CHECK.says(3, "all is as at first: LOTS, PILES, SHIPS are those of the latest TEXT alone");
        for (int i = 1; i <= 6; i++) {
            int lots = 4 * i % 7;
            int piles = i % 4;
            int ships = 5 * i % 7;
            CHECK.due("text", Check.tell(x, many(lots, piles, ships)), lots + piles + ships);
            CHECK.due("count(0)", x.count(0), lots);
            CHECK.due("count(1)", x.count(1), piles);
            CHECK.due("count(2)", x.count(2), ships);
            CHECK.due("text of a FAULT", Check.tell(x, many(1, 1, 1) + "#") < -2, true);
            CHECK.due("count(0)", x.count(0), lots);
        }
        CHECK.says(3, "no IMAGES, nothing can be taken back");
        BlendYard y = used();
        Check.tell(y, USED);
        CHECK.due("count(9)", y.count(9), 0);
        CHECK.due("image(0, true)", y.image(0, true), false);
        CHECK.due("image(1, true)", y.image(1, true), false);
        CHECK.due("count(8)", y.count(8), 0);
        CHECK.due("undo()", y.undo(), -1);
        CHECK.says(3, "a TEXT without LINES: all is as at first too");
        BlendYard z = used();
        CHECK.due("text(0)", z.text(0), 0);
        for (int what = 0; what < 17; what++) {
            CHECK.due("count(" + what + ")", z.count(what), what == 3 ? 1 : 0);
        }
        CHECK.due("undo()", z.undo(), -1);
        CHECK.due("image(0, true)", z.image(0, true), false);
        CHECK.due("pile(0, 0)", z.pile(0, 0), -2);
        CHECK.due("below()", z.below(), 1);
    }

    private static void allElseStays() {
        CHECK.says(3, "-2 less (8 * place + kind): a FAULT (all else stays)");
        BlendYard x = used();
        int[] before = new int[17];
        for (int what = 0; what < 17; what++) {
            before[what] = x.count(what);
        }
        // Four of them with LOTS, PILES, SHIPS and a gap that could be told ahead of the FAULT.
        String good = "lot z tonnes 1 grade 999;pile y cells 12;ship x needs 9 low 1 high 2 due 9 load 9 fine 9;gap 3;";
        CHECK.due("kind 1", Check.tell(x, good + "#"), -2 - (8 * good.length() + 1));
        CHECK.due("kind 1, the end", Check.tell(x, good + "gap"), -2 - (8 * good.length() + 2));
        CHECK.due("kind 2", Check.tell(x, good + "lot z"), -2 - (8 * (good.length() + 4) + 2));
        CHECK.due("kind 3", Check.tell(x, good + "pile w cells 1;"), -2 - (8 * (good.length() + 13) + 3));
        String piles = "pile a cells 2;pile b cells 2;pile c cells 2;";
        CHECK.due("kind 4", Check.tell(x, piles + "pile d cells 2;"), -2 - (8 * 45 + 4));
        for (int what = 0; what < 17; what++) {
            CHECK.due("count(" + what + ")", x.count(what), before[what]);
        }
        CHECK.due("lot(0, 0)", x.lot(0, 0), 99);
        CHECK.due("lot(0, 2)", x.lot(0, 2), 90);
        CHECK.due("pile(0, 0)", x.pile(0, 0), 3);
        CHECK.due("pile(0, 2)", x.pile(0, 2), 11);
        CHECK.due("ship(0, 0)", x.ship(0, 0), 3);
        CHECK.due("ship(0, 5)", x.ship(0, 5), 0);
        CHECK.due("below()", x.below(), 11);
        CHECK.due("spreadBelow()", x.spreadBelow(), 4);
        CHECK.due("worstBelow()", x.worstBelow(), 47);
        CHECK.due("undo()", x.undo(), 8);
        CHECK.due("image(1, true)", x.image(1, true), true);
    }

    private static void blanks() {
        CHECK.says(3, "blanks, 32, 10, part TOKENS and mean nothing else");
        fits(" gap 1;", 1);
        fits("\ngap\n1\n;\n", 1);
        fits("  \n \n gap \n\n  1 \n ; \n", 1);
        fits("gap1;", 1);
        fits("lot a tonnes5grade5;lot b tonnes 5\ngrade\n5;", 2);
        fits(" ", 0);
        fits("\n", 0);
        fits(" \n\n ", 0);
        fault("ga p 1;", 0, 1);
        fault("gap 1 1;", 6, 1);
        fault("lot a b tonnes 5 grade 5;", 6, 1);
        fault("lot a ton nes 5 grade 5;", 6, 1);
        CHECK.says(3, "other bytes are no blanks");
        fault("\tgap 1;", 0, 1);
        fault("gap\r\n1;", 3, 1);
        fault("gap 1;\u000b", 6, 1);
        fault("gap 1;\u0000", 6, 1);
        fault("gap 1;\u001f", 6, 1);
        fault("gap\u00211;", 3, 1);
        fault("gap\u00a01;", 3, 1);
    }

    private static void tokens() {
        CHECK.says(3, "WORDS of small letters");
        fits("lot azaz tonnes 1 grade 1;", 1);
        for (char c : new char[] {'a' - 1, 'z' + 1, 'A', 'Z', '_', '-', 225, 122 + 128}) {
            fault("lot " + c + " tonnes 1 grade 1;", 4, 1);
            fault("lot a" + c + " tonnes 1 grade 1;", 5, 1);
            fault("gap 1; " + c, 7, 1);
        }
        CHECK.says(3, "NUMBERS of digits");
        fits("lot a tonnes 9090 grade 90;", 1);
        for (char c : new char[] {'0' - 1, '9' + 1, '-', '+', '.', 48 + 128}) {
            fault("gap " + c + "1;", 4, 1);
            fault("gap 1" + c + ";", 5, 1);
        }
        CHECK.says(3, "each that stand together");
        fault("lotatonnes 1 grade 1;", 0, 1);
        fault("lot a1 tonnes 1 grade 1;", 5, 1);
        fault("lot 1a tonnes 1 grade 1;", 4, 1);
        fault("gap 1x;", 5, 1);
        fits("lot a tonnes1grade2;", 1);
        CHECK.says(3, "the sign ; alone");
        fits("gap 1;pile p cells 2;", 2);
        fault("gap 1;;", 6, 1);
        fault(";gap 1;", 0, 1);
        fault("gap 1:", 5, 1);
        fault("gap 1<", 5, 1);
        fault("gap 1; ;", 7, 1);
    }

    /** A text whose names are the letters from a on, as short as can be. */
    private static String many(int lots, int piles, int ships) {
        StringBuilder all = new StringBuilder();
        char name = 'a';
        for (int i = 0; i < lots; i++) {
            all.append("lot ").append(name++).append(" tonnes1grade1;");
        }
        for (int i = 0; i < piles; i++) {
            all.append("pile ").append(name++).append(" cells2;");
        }
        for (int i = 0; i < ships; i++) {
            all.append("ship ").append(name++).append(" needs1low0high0due1load1;");
        }
        return all.toString();
    }

    private static void anyNumberOfLines() {
        CHECK.says(3, "any number of LINES, none too");
        fits("", 0);
        fits("gap 1;", 1);
        fits("pile a cells 2;", 1);
        fits(many(12, 3, 8) + "gap1;", 24);
        CHECK.says(3, "each with ; behind it");
        fault("gap 1", 5, 1);
        fault("gap 1 gap", 6, 1);
        fault("gap 1;pile a cells 2", 20, 1);
        fault("lot a tonnes 1 grade 1 pile a", 23, 1);
    }

    private static void linesOfEachKind() {
        CHECK.says(3, "12 at most (LOTS)");
        fits(many(11, 0, 0), 11);
        fits(many(12, 0, 0), 12);
        fault(many(13, 0, 0), 12 * 20, 4);
        CHECK.says(3, "3 at most (PILES)");
        fits(many(0, 2, 0), 2);
        fits(many(0, 3, 0), 3);
        fault(many(0, 4, 0), 3 * 14, 4);
        CHECK.says(3, "8 at most (SHIPS)");
        fits(many(0, 0, 7), 7);
        fits(many(0, 0, 8), 8);
        fault(many(0, 0, 9), 8 * 32, 4);
        CHECK.says(3, "the twelfth LOT, the third PILE, the eighth SHIP are told as the others");
        BlendYard x = Check.yard(many(11, 2, 7) + "lot lll tonnes 77 grade 78;pile ppp cells 12;"
            + "ship sss needs 9 low 8 high 10 due 7 load 6 fine 5;");
        CHECK.due("lot(11, 0)", x.lot(11, 0), 77);
        CHECK.due("lot(11, 1)", x.lot(11, 1), 78);
        CHECK.due("lot(11, 2)", x.lot(11, 2), 77);
        CHECK.due("pile(2, 0)", x.pile(2, 0), 12);
        int[] ship = {9, 8, 10, 7, 6, 5};
        for (int what = 0; what < 6; what++) {
            CHECK.due("ship(7, " + what + ")", x.ship(7, what), ship[what]);
        }
        CHECK.lacks("lot(12, 0)", () -> x.lot(12, 0));
        CHECK.due("pile(3, 0)", x.pile(3, 0), -2);
        CHECK.lacks("ship(8, 0)", () -> x.ship(8, 0));
    }

    /** A line with a number where the sign # stands. */
    private static void bound(String line, int low, int high) {
        int place = line.indexOf('#');
        CHECK.says(3, "'" + line + "': " + low + " to " + high);
        for (int n : new int[] {low, low + 1, high - 1, high}) {
            fits(line.replace("#", "" + n), 1);
        }
        if (low > 0) {
            fault(line.replace("#", "" + (low - 1)), place, 3);
            fault(line.replace("#", "0"), place, 3);
            fault(line.replace("#", "0000"), place, 3);
        } else {
            fits(line.replace("#", "0000"), 1);
        }
        for (int n : new int[] {high + 1, 10 * high + 9, 9999999, Integer.MAX_VALUE}) {
            fault(line.replace("#", "" + n), place, 3);
        }
        // Beyond 32 bits: their low bits would be the bound's.
        fault(line.replace("#", "" + ((1L << 32) + high)), place, 3);
        fault(line.replace("#", "" + ((1L << 32) + low)), place, 3);
        fault(line.replace("#", "18446744073709551617"), place, 3);
    }

    private static void bounds() {
        bound("lot a tonnes # grade 1;", 1, 9999);
        bound("lot a tonnes 1 grade #;", 0, 999);
        bound("pile a cells #;", 2, 12);
        bound("ship a needs # low 0 high 999 due 1 load 1;", 1, 999);
        bound("ship a needs 1 low # high 999 due 1 load 1;", 0, 999);
        bound("ship a needs 1 low 0 high # due 1 load 1;", 0, 999);
        bound("ship a needs 1 low 0 high 999 due # load 1;", 1, 99);
        bound("ship a needs 1 low 0 high 999 due 1 load #;", 1, 20);
        bound("ship a needs 1 low 0 high 999 due 1 load 1 fine #;", 0, 999);
        bound("gap #;", 0, 3);
    }

    private static void highFromLow() {
        CHECK.says(3, "high low to 999");
        for (int low : new int[] {0, 1, 500, 998, 999}) {
            String line = "ship a needs 1 low " + low + " high ";
            fits(line + low + " due 1 load 1;", 1);
            fits(line + "999 due 1 load 1;", 1);
            fault(line + "1000 due 1 load 1;", line.length(), 3);
            if (low > 0) {
                fault(line + (low - 1) + " due 1 load 1;", line.length(), 3);
                fault(line + "0 due 1 load 1;", line.length(), 3);
            }
        }
    }

    private static void fineIsLeftOut() {
        CHECK.says(3, "[ fine NUMBER ]: 0 without");
        BlendYard x = Check.yard("ship a needs 1 low 0 high 0 due 1 load 1 fine 9;ship b needs 1 low 0 high 0 due 1 load 1;"
            + "ship c needs 1 low 0 high 0 due 1 load 1 fine 0;ship d needs 1 low 0 high 0 due 1 load 1 fine 999;");
        CHECK.due("ship(0, 5)", x.ship(0, 5), 9);
        CHECK.due("ship(1, 5), 0 without, whatever the last one has", x.ship(1, 5), 0);
        CHECK.due("ship(2, 5)", x.ship(2, 5), 0);
        CHECK.due("ship(3, 5)", x.ship(3, 5), 999);
        Check.tell(x, "ship a needs 1 low 0 high 0 due 1 load 1;");
        CHECK.due("ship(0, 5), 0 without, whatever it was", x.ship(0, 5), 0);
        fault("ship a needs 1 low 0 high 0 due 1 load 1 fine;", 45, 1);
        fault("ship a needs 1 low 0 high 0 due 1 load 1 fine 1 fine 1;", 48, 1);
        fault("ship a needs 1 low 0 high 0 due 1 fine 1 load 1;", 34, 1);
        fault("lot a tonnes 1 grade 1 fine 1;", 23, 1);
    }

    private static void gapOnce() {
        CHECK.says(3, "gap NUMBER (once; 1 without)");
        for (int gap = 0; gap <= 3; gap++) {
            CHECK.due("count(3)", Check.yard("gap " + gap + ";pile a cells 2;").count(3), gap);
            CHECK.due("count(3), the last LINE", Check.yard("pile a cells 2;gap " + gap + ";").count(3), gap);
        }
        CHECK.due("count(3), without", Check.yard("pile a cells 2;").count(3), 1);
        fault("gap 1;gap 1;", 6, 2);
    }

    private static void names() {
        CHECK.says(3, "NAMES are WORDS of 1 to 6 letters");
        fits("lot a tonnes 1 grade 1;pile b cells 2;ship c needs 1 low 0 high 0 due 1 load 1;", 3);
        fits("lot abcdef tonnes 1 grade 1;pile zzzzzz cells 2;ship ghijkl needs 1 low 0 high 0 due 1 load 1;", 3);
        fault("lot abcdefg tonnes 1 grade 1;", 4, 1);
        fault("pile abcdefg cells 2;", 5, 1);
        fault("ship abcdefg needs 1 low 0 high 0 due 1 load 1;", 5, 1);
        fault("lot abcdefghijklmnopqrstuvwxyzabcdefghijklmnopqrstuvwxyz tonnes 1 grade 1;", 4, 1);
        CHECK.says(3, "but lot, pile, ship, gap, tonnes, grade, cells, needs, low, high, due, load, fine");
        for (String word : KEPT) {
            fault("lot " + word + " tonnes 1 grade 1;", 4, 1);
            fault("pile " + word + " cells 2;", 5, 1);
            fault("ship " + word + " needs 1 low 0 high 0 due 1 load 1;", 5, 1);
            String less = word.substring(0, word.length() - 1);
            fits("lot " + less + " tonnes 1 grade 1;", 1);
            fits("lot " + word.substring(1) + " tonnes 1 grade 1;", 1);
            fits("lot x" + word.substring(1) + " tonnes 1 grade 1;", 1);
            fits("lot " + less + "x tonnes 1 grade 1;", 1);
            if (word.length() < 6) {
                fits("lot " + word + "s tonnes 1 grade 1;lot s" + word + " tonnes 1 grade 1;", 2);
            }
        }
        fits("lot tonne tonnes 1 grade 1;lot text tonnes 1 grade 1;lot fines tonnes 1 grade 1;lot day tonnes 1 grade 1;", 4);
    }

    private static void noTwoAlike() {
        CHECK.says(3, "no two are alike: 2 a NAME that is given to two");
        String[] lines = {"lot @ tonnes 1 grade 1;", "pile @ cells 2;", "ship @ needs 1 low 0 high 0 due 1 load 1;"};
        for (String first : lines) {
            for (String second : lines) {
                String ahead = first.replace("@", "qrstuv");
                fault(ahead + second.replace("@", "qrstuv"), ahead.length() + second.indexOf('@'), 2);
                fits(ahead + second.replace("@", "qrstuw"), 2);
                fits(ahead + second.replace("@", "rrstuv"), 2);
                fits(ahead + second.replace("@", "qrstu"), 2);
                fits(ahead + second.replace("@", "q"), 2);
            }
        }
        String[] near = {"a", "aa", "aaa", "b", "ab", "ba", "bb", "z", "az", "za", "zz", "aaaaaa", "zzzzzz", "zzzzz", "aaaaaz"};
        for (String one : near) {
            for (String other : near) {
                String ahead = lines[1].replace("@", one);
                if (one.equals(other)) {
                    fault(ahead + lines[0].replace("@", other), ahead.length() + 4, 2);
                } else {
                    fits(ahead + lines[0].replace("@", other), 2);
                }
            }
        }
        CHECK.says(3, "a NAME of the TEXT ahead may be given again");
        BlendYard x = Check.yard("pile a cells 2;");
        CHECK.due("text", Check.tell(x, "lot a tonnes 1 grade 1;"), 1);
        CHECK.due("text of a FAULT", Check.tell(x, "lot b tonnes 1 grade 1;lot b"), -2 - (8 * 27 + 2));
        CHECK.due("text", Check.tell(x, "lot b tonnes 1 grade 1;"), 1);
        CHECK.says(3, "no two are alike: the first one and the last one of 23");
        String all = many(12, 3, 7);
        fault(all + "ship a needs1", all.length() + 5, 2);
        fault(all + "ship v needs1", all.length() + 5, 2);
        fits(all + "ship x needs1low0high0due1load1;", 23);
        CHECK.says(3, "a second gap, at that WORD");
        fault("gap 0;gap", 6, 2);
        fault("gap 0; \ngap 9;", 8, 2);
        fault("gap 0;pile a cells 2;gap;", 21, 2);
        fault("gap 0;gap 0;gap 0;", 6, 2);
    }

    private static void numberedAsTold() {
        CHECK.says(3, "LOTS, PILES, SHIPS are numbered as told, from 0 on");
        BlendYard x = Check.yard("ship z needs 7 low 0 high 0 due 1 load 1;pile y cells 5;lot x tonnes 6 grade 1;"
            + "pile a cells 3;ship b needs 4 low 0 high 0 due 1 load 1;lot c tonnes 2 grade 1;");
        CHECK.due("lot(0, 0)", x.lot(0, 0), 6);
        CHECK.due("lot(1, 0)", x.lot(1, 0), 2);
        CHECK.due("pile(0, 0)", x.pile(0, 0), 5);
        CHECK.due("pile(1, 0)", x.pile(1, 0), 3);
        CHECK.due("ship(0, 0)", x.ship(0, 0), 7);
        CHECK.due("ship(1, 0)", x.ship(1, 0), 4);
        CHECK.says(3, "CELLS of a PILE from 0 on");
        x.lay(1, 0, 0, 2, 1);
        CHECK.due("tonnes(1, 0, 0)", x.tonnes(1, 0, 0), 1);
        CHECK.due("tonnes(1, 0, 2)", x.tonnes(1, 0, 2), 1);
        CHECK.due("tonnes(1, 0, 3)", x.tonnes(1, 0, 3), -2);
        CHECK.due("layer(1, 0, 2)", x.layer(1, 0, 2), 7);
    }

    private static void noTextGoesOn() {
        CHECK.says(3, "1 the first byte that begins no TOKEN");
        fault("#", 0, 1);
        fault("gap 1;#$", 6, 1);
        fault("gap 1;  ,gap 1;", 8, 1);
        fault("lot a, tonnes", 5, 1);
        fault("pile a cells 2=", 14, 1);
        CHECK.says(3, "the TOKEN with which no TEXT goes on");
        String[] parts = {"lot", " a", " tonnes", " 1", " grade", " 1", ";", "pile", " b", " cells", " 2", ";", "ship", " c",
            " needs", " 1", " low", " 0", " high", " 0", " due", " 1", " load", " 1", " fine", " 1", ";", "gap", " 1", ";"};
        StringBuilder ahead = new StringBuilder();
        for (String part : parts) {
            String word = part.trim();
            boolean name = word.length() == 1 && Character.isLetter(word.charAt(0));
            boolean number = Character.isDigit(word.charAt(0));
            for (String other : new String[] {"7", ";", "zz", "lot", "grade", "high", "ships"}) {
                boolean goesOn = number ? other.equals("7") : name && (other.equals("zz") || other.equals("ships"));
                goesOn |= word.equals(other) || word.equals("fine") && other.equals(";");
                boolean first = word.equals("pile") || word.equals("ship") || word.equals("gap");
                goesOn |= first && other.equals("lot");
                if (!goesOn) {
                    fault(ahead + " " + other + " x", ahead.length() + 1, 1);
                }
            }
            ahead.append(part);
        }
        fits(ahead.toString(), 4);
        String whole = ahead.toString();
        int start = 0;
        for (int i = 0; i < whole.length(); i++) {
            // A letter changed in each WORD that is no NAME.
            boolean letter = Character.isLetter(whole.charAt(i));
            start = letter && (i == 0 || !Character.isLetter(whole.charAt(i - 1))) ? i : start;
            if (letter && Character.isLetter(whole.charAt(start + 1))) {
                char other = whole.charAt(i) == 'x' ? 'y' : 'x';
                fault(whole.substring(0, i) + other + whole.substring(i + 1), start, 1);
            }
        }
        CHECK.says(3, "a WORD that isn't a NAME where one must stand");
        fault("lot lot tonnes 1 grade 1;", 4, 1);
        fault("lot tonnes 1 grade 1;", 4, 1);
        fault("ship sevenly needs", 5, 1);
    }

    private static void theEnd() {
        CHECK.says(3, "the end: how many bytes there are");
        String line = "ship abc needs 1 low 0 high 0 due 1 load 1 fine 1;";
        for (int n = 1; n < line.length(); n++) {
            // Cut inside of a word that must be whole, that part of a WORD is where no TEXT goes on.
            boolean inWord = Character.isLetter(line.charAt(n - 1)) && Character.isLetter(line.charAt(n));
            boolean inName = n > 5 && n < 8;
            int place = inWord && !inName ? line.lastIndexOf(' ', n - 1) + 1 : n;
            fault(line.substring(0, n), place, 1);
        }
        fault("gap", 3, 1);
        fault("gap  ", 5, 1);
        fault("gap \n\n", 6, 1);
        fault("gap 1 \n ", 8, 1);
        CHECK.says(3, "the end: 600 bytes");
        StringBuilder all = new StringBuilder("gap 1");
        while (all.length() < 600) {
            all.append(' ');
        }
        fault(all.toString(), 600, 1);
        all.setCharAt(599, ';');
        fits(all.toString(), 1);
        all.setCharAt(599, '1');
        fault(all.toString(), 599, 1);
        all.setCharAt(599, '#');
        fault(all.toString(), 599, 1);
        CHECK.says(3, "the end: n bytes, whatever stands behind them");
        BlendYard x = new BlendYard();
        Check.feed(x, "gap 1;pile a cells 12;");
        CHECK.due("text(10), of 'pile' all", x.text(10), -2 - (8 * 10 + 1));
        Check.feed(x, "gap 1;pile a cells 12;");
        CHECK.due("text(9), of 'pile' pil", x.text(9), -2 - (8 * 6 + 1));
        Check.feed(x, "gap 1;pile a cells 12;");
        CHECK.due("text(20), of '12' 1", x.text(20), -2 - (8 * 19 + 3));
    }

    private static void aNumberThatCannotBe() {
        CHECK.says(3, "3 a NUMBER that can't be, at its first digit");
        fault("pile a cells   13;", 15, 3);
        fault("pile a cells13", 12, 3);
        CHECK.says(3, "also one of more than 4 digits");
        fits("lot a tonnes 0001 grade 0999;pile b cells 0012;gap 0003;", 3);
        fault("lot a tonnes 00001 grade 1;", 13, 3);
        fault("lot a tonnes 1 grade 00000;", 21, 3);
        fault("lot a tonnes 1 grade 00999;", 21, 3);
        fault("pile b cells 00012;", 13, 3);
        fault("ship a needs 00001 low", 13, 3);
        fault("ship a needs 1 low 00000 high", 19, 3);
        fault("ship a needs 1 low 0 high 00000 due", 26, 3);
        fault("ship a needs 1 low 0 high 0 due 00001 load", 32, 3);
        fault("ship a needs 1 low 0 high 0 due 1 load 00001;", 39, 3);
        fault("ship a needs 1 low 0 high 0 due 1 load 1 fine 00000;", 46, 3);
        fault("gap 00000;", 4, 3);
        fault("gap 00000000000000000000000000000000000000000000000000000000000000000001;", 4, 3);
    }

    private static void oneTooMany() {
        CHECK.says(3, "4 one too many: a LINE's first word");
        fault(many(12, 0, 0) + "\n lot", 242, 4);
        fault(many(0, 3, 0) + " pile 7", 43, 4);
        fault(many(0, 0, 8) + " ship;", 257, 4);
        fault(many(12, 3, 0) + "pile a", 12 * 20 + 3 * 14, 4);
        fault(many(0, 3, 0) + "pile pile cells 99", 42, 4);
        fits(many(12, 0, 0) + "pile x cells2;", 13);
        fits(many(0, 3, 0) + "lot x tonnes1grade1;", 4);
        fits(many(0, 0, 8) + "lot x tonnes1grade1;", 9);
        fault(many(12, 0, 0) + "lots", 240, 1);
    }

    private static void leastPlace() {
        CHECK.says(3, "FAULTS, the one whose place is least");
        String[] faults = {"lot a tonnes 1 grade 1 #;", "lot aa tonnes 1 grade 1;lot aa tonnes 1 grade 1;", "gap 4;",
            many(0, 4, 0), "gap 1;gap 1;"};
        int[] places = {23, 28, 4, 42, 6};
        int[] kinds = {1, 2, 3, 4, 2};
        for (int i = 0; i < faults.length; i++) {
            for (String behind : faults) {
                fault(faults[i] + behind, places[i], kinds[i]);
            }
        }
        fault("lot a tonnes 0 grade 1000;", 13, 3);
        fault("lot a tonnes 0", 13, 3);
        fault("lot aaaaaaa tonnes 0", 4, 1);
        CHECK.says(3, "of one place the one that stands first here");
        fault("gap 1;lot gap tonnes 1 grade 1;", 10, 1);
        fault("pile abcdefg cells 2;pile abcdefg cells 2;", 5, 1);
    }
}
