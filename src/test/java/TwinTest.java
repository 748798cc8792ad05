import java.util.NoSuchElementException;

/** All promises: long runs of calls, each run always the same, held against SlowYard. */
public final class TwinTest {
    private static final int RUNS = 7000;
    // An object is used for 512 calls: a run ends with these, and what a step that was begun needs still.
    private static final int CALLS = 400;
    private static final int THROWN = 123456789;

    private final Check check;
    private final String run;
    private long seed;
    private final BlendYard x = new BlendYard();
    private final SlowYard y = new SlowYard();
    private int calls = 0;
    private boolean same = true;
    private int lots;
    private int piles;
    private int ships;
    private int busy;

    private TwinTest(Check check, int run) {
        this.check = check;
        this.run = "run " + run + ": ";
        this.seed = 7919L * run + 17;
    }

    public static void main(String[] args) {
        Check check = new Check("TwinTest");
        int runs = args.length == 0 ? RUNS : Integer.parseInt(args[0]);
        for (int run = 0; run < runs; run++) {
            new TwinTest(check, run).runAll();
        }
        check.end();
    }

    private int dice(int sides) {
        seed = seed * 6364136223846793005L + 1442695040888963407L;
        return (int) ((seed >>> 33) % sides);
    }

    /** From low to high, now and then a little or far beside. */
    private int near(int low, int high) {
        int d = dice(60);
        if (d == 0) {
            return low - 1 - dice(2);
        }
        if (d == 1) {
            return high + 1 + dice(2);
        }
        if (d == 2) {
            return dice(2) == 0 ? Integer.MAX_VALUE - dice(2) : Integer.MIN_VALUE + dice(2);
        }
        return high < low ? low : low + dice(high - low + 1);
    }

    private void runAll() {
        busy = dice(4);
        tellText();
        while (calls < CALLS && same) {
            call();
        }
    }

    private void due(int promise, String call, long got, long want) {
        check.due(promise, run + call, got, want);
        calls++;
        if (got != want) {
            same = false;
        }
    }

    private void due(int promise, String call, boolean got, boolean want) {
        due(promise, call, got ? 1 : 0, want ? 1 : 0);
    }

    // ---- texts

    private void tellText() {
        String text = dice(6) == 0 ? spoilt(goodText()) : goodText();
        for (int at = 0; at < text.length(); at += 20) {
            int[] f = new int[5];
            for (int i = 0; i < 20; i++) {
                f[i / 4] = f[i / 4] << 8 | (at + i < text.length() ? text.charAt(at + i) : 32);
            }
            due(2, "feed", x.feed(f[0], f[1], f[2], f[3], f[4]), y.feed(f));
        }
        int n = text.length();
        due(3, "text of '" + text + "'", x.text(n), y.text(n));
        lots = y.count(0);
        piles = y.count(1);
        ships = y.count(2);
    }

    private String goodText() {
        StringBuilder text = new StringBuilder();
        int l = dice(5) == 0 ? dice(13) : 2 + dice(5);
        int p = dice(8) == 0 ? dice(4) : 1 + dice(2);
        int s = dice(5) == 0 ? dice(9) : 2 + dice(3);
        boolean few = dice(3) == 0;
        for (int i = 0; i < l; i++) {
            int tonnes = few ? 1 + dice(40) : 1 + dice(dice(3) == 0 ? 9999 : 400);
            text.append("lot ").append((char) ('a' + i)).append(" tonnes ").append(tonnes);
            text.append(" grade ").append(few ? dice(4) * 100 : dice(1000)).append(";");
        }
        for (int i = 0; i < p; i++) {
            text.append("pile p").append((char) ('a' + i)).append(" cells ").append(2 + dice(11)).append(";");
        }
        for (int i = 0; i < s && text.length() < 520; i++) {
            int low = dice(3) == 0 ? dice(1000) : dice(300);
            text.append("ship s").append((char) ('a' + i)).append(" needs ").append(1 + dice(few ? 30 : 150));
            text.append(" low ").append(low).append(" high ").append(low + dice(1000 - low));
            text.append(" due ").append(1 + dice(20)).append(" load ").append(1 + dice(8));
            text.append(dice(3) == 0 ? "" : " fine " + dice(100)).append(";");
        }
        if (dice(4) != 0 && text.length() < 590) {
            text.append("gap ").append(dice(4)).append(";");
        }
        return text.length() > 600 ? text.substring(0, 600) : text.toString();
    }

    private String spoilt(String text) {
        StringBuilder spoilt = new StringBuilder(text);
        int times = 1 + dice(2);
        for (int i = 0; i < times && spoilt.length() > 0; i++) {
            int at = dice(spoilt.length());
            switch (dice(5)) {
                case 0: spoilt.deleteCharAt(at); break;
                case 1: spoilt.setCharAt(at, "; az09\n#AZ\u00e9\t".charAt(dice(12))); break;
                case 2: spoilt.setLength(at); break;
                case 3:
                    int end = Math.min(spoilt.length(), at + dice(30));
                    spoilt.append(spoilt.substring(at, end));
                    break;
                default:
                    int semicolon = spoilt.indexOf(";", at);
                    if (semicolon >= 0) {
                        spoilt.append(spoilt.substring(0, semicolon + 1));
                    }
            }
        }
        if (spoilt.length() > 600) {
            spoilt.setLength(600);
        }
        return spoilt.toString();
    }

    // ---- calls

    private void call() {
        int d = dice(100);
        if (d < 36) {
            change();
        } else if (d < 66) {
            look();
        } else if (d < 80) {
            grades();
        } else if (d < 90) {
            best();
        } else if (d < 99) {
            shipsNow();
        } else if (dice(6) == 0) {
            tellText();
        } else {
            int n = near(0, y.count(10));
            if (n != 0) {
                due(3, "text(" + n + ")", x.text(n), y.text(n));
            }
        }
    }

    private int cells(int pile) {
        return Math.max(2, y.pile(pile, 0));
    }

    private int across() {
        return dice(3) == 0 ? near(1, 99) : near(1, 12);
    }

    private void change() {
        int pile = near(0, piles - 1);
        int lot = near(0, lots - 1);
        int ship = near(0, ships - 1);
        int from = near(0, cells(pile) - 1);
        int to = near(0, cells(pile) - 1);
        int t = across();
        int machine = near(0, 1);
        String lay = "(" + pile + ", " + lot + ", " + from + ", " + to + ", " + t + ")";
        String cut = "(" + pile + ", " + from + ", " + ship + ")";
        switch (dice(busy == 0 ? 22 : 32)) {
            case 0: case 1: case 2: case 3: case 4:
                due(12, "whyLay" + lay, x.whyLay(pile, lot, from, to, t), y.whyLay(pile, lot, from, to, t));
                due(13, "lay" + lay, x.lay(pile, lot, from, to, t), y.lay(pile, lot, from, to, t));
                break;
            case 5: case 6: case 7: case 8: case 9:
                due(14, "whyCut" + cut, x.whyCut(pile, from, ship), y.whyCut(pile, from, ship));
                due(15, "cut" + cut, x.cut(pile, from, ship), y.cut(pile, from, ship));
                break;
            case 10: case 11: case 12: due(16, "park(" + machine + ")", x.park(machine), y.park(machine)); break;
            case 13: case 14: due(17, "sail(" + ship + ")", x.sail(ship), y.sail(ship)); break;
            case 15:
                int n = dice(9) == 0 ? near(1, 99) : near(1, 3);
                due(18, "days(" + n + ")", x.days(n), y.days(n));
                break;
            case 16: case 17: due(24, "undo()", x.undo(), y.undo()); break;
            case 18: case 19:
                int k = near(0, 1);
                boolean back = dice(3) == 0;
                due(25, "image(" + k + ", " + back + ")", x.image(k, back), y.image(k, back));
                break;
            case 20: if (dice(4) == 0) { due(21, "drop(" + machine + ")", x.drop(machine), y.drop(machine)); } break;
            case 21: fillPile(pile, lot); break;
            case 22: case 23: case 24: case 25:
                due(19, "toLay" + lay, x.toLay(pile, lot, from, to, t), y.toLay(pile, lot, from, to, t));
                break;
            case 26: case 27: case 28:
                due(20, "toCut" + cut, x.toCut(pile, from, ship), y.toCut(pile, from, ship));
                break;
            default:
                int m = dice(9) == 0 ? near(1, 200) : near(1, 15);
                due(22, "minutes(" + m + ")", x.minutes(m), y.minutes(m));
        }
    }

    /** Many layers of a tonne, so that sixty are reached at times. */
    private void fillPile(int pile, int lot) {
        if (dice(6) != 0) {
            return;
        }
        for (int i = 0; i < 40; i++) {
            int cell = dice(cells(pile));
            due(13, "lay in a row", x.lay(pile, lot, cell, cell, 1), y.lay(pile, lot, cell, cell, 1));
        }
    }

    private void look() {
        int pile = near(0, piles - 1);
        int layer = near(0, y.pile(pile, 1) - 1);
        int cell = near(0, cells(pile) - 1);
        switch (dice(8)) {
            case 0: case 1:
                for (int what = 0; what < 17; what++) {
                    due(4, "count(" + what + ")", x.count(what), y.count(what));
                }
                int other = near(17, 17);
                due(4, "count(" + other + ")", x.count(other), y.count(other));
                break;
            case 2: lotAndShip(); break;
            case 3:
                for (int what = -1; what < 4; what++) {
                    due(7, "pile(" + pile + ", " + what + ")", x.pile(pile, what), y.pile(pile, what));
                }
                break;
            case 4:
                for (int what = -1; what < 4; what++) {
                    due(8, "layer(" + pile + ", " + layer + ", " + what + ")", x.layer(pile, layer, what),
                        y.layer(pile, layer, what));
                }
                break;
            case 5:
                due(9, "tonnes(" + pile + ", " + layer + ", " + cell + ")", x.tonnes(pile, layer, cell),
                    y.tonnes(pile, layer, cell));
                break;
            case 6:
                for (int machine = -1; machine < 3; machine++) {
                    due(10, "stands(" + machine + ")", x.stands(machine), y.stands(machine));
                }
                due(11, "apart()", x.apart(), y.apart());
                break;
            default: due(23, "ends()", x.ends(), y.ends());
        }
    }

    private void lotAndShip() {
        int lot = near(0, lots - 1);
        int ship = near(0, ships - 1);
        for (int what = -1; what < 11; what++) {
            int gotLot = THROWN;
            int wantLot = THROWN;
            int gotShip = THROWN;
            int wantShip = THROWN;
            try { gotLot = x.lot(lot, what); } catch (NoSuchElementException e) { gotLot = THROWN; }
            try { wantLot = y.lot(lot, what); } catch (NoSuchElementException e) { wantLot = THROWN; }
            try { gotShip = x.ship(ship, what); } catch (NoSuchElementException e) { gotShip = THROWN; }
            try { wantShip = y.ship(ship, what); } catch (NoSuchElementException e) { wantShip = THROWN; }
            due(5, "lot(" + lot + ", " + what + ")", gotLot, wantLot);
            due(6, "ship(" + ship + ", " + what + ")", gotShip, wantShip);
        }
    }

    private void grades() {
        int pile = near(0, piles - 1);
        int cell = near(0, cells(pile) - 1);
        int ship = near(0, ships - 1);
        switch (dice(6)) {
            case 0: due(26, "cell(" + pile + ", " + cell + ")", x.cell(pile, cell), y.cell(pile, cell)); break;
            case 1: due(27, "whole(" + pile + ")", x.whole(pile), y.whole(pile)); break;
            case 2: due(28, "hold(" + ship + ")", x.hold(ship), y.hold(ship)); break;
            case 3:
                int low = near(0, dice(1000));
                int high = near(low, 999);
                due(30, "within(" + pile + ", " + low + ", " + high + ")", x.within(pile, low, high), y.within(pile, low, high));
                break;
            case 4: due(31, "spread(" + pile + ")", x.spread(pile), y.spread(pile)); break;
            default:
                int lot = near(0, lots - 1);
                int from = near(0, cells(pile) - 1);
                int to = near(0, cells(pile) - 1);
                int t = across();
                due(33, "ifLaid(" + pile + ", " + lot + ", " + from + ", " + to + ", " + t + ", " + cell + ")",
                    x.ifLaid(pile, lot, from, to, t, cell), y.ifLaid(pile, lot, from, to, t, cell));
        }
        due(29, "below()", x.below(), y.below());
        due(32, "spreadBelow()", x.spreadBelow(), y.spreadBelow());
    }

    private void best() {
        int pile = near(0, piles - 1);
        int aim = near(0, 999);
        switch (dice(4)) {
            case 0:
                int bits = dice(9) == 0 ? near(0, 1 << lots) : dice(1 << lots);
                due(35, "worst(" + bits + ", " + aim + ")", x.worst(bits, aim), y.worst(bits, aim));
                due(36, "worstBelow()", x.worstBelow(), y.worstBelow());
                for (int k = -1; k < 7; k++) {
                    due(34, "layOrder(" + bits + ", " + aim + ", " + k + ")", x.layOrder(bits, aim, k), y.layOrder(bits, aim, k));
                }
                break;
            case 1:
                int t = across();
                due(37, "next(" + pile + ", " + t + ", " + aim + ")", x.next(pile, t, aim), y.next(pile, t, aim));
                break;
            default:
                int ship = near(0, ships - 1);
                for (int what = -1; what < 4; what++) {
                    due(38, "way(" + ship + ", " + pile + ", " + what + ")", x.way(ship, pile, what), y.way(ship, pile, what));
                }
        }
    }

    private void shipsNow() {
        int ship = near(0, ships - 1);
        switch (dice(4)) {
            case 0: due(39, "fewest()", x.fewest(), y.fewest()); break;
            case 1:
                for (int k = -2; k < 9; k++) {
                    due(40, "order(" + k + ")", x.order(k), y.order(k));
                }
                break;
            case 2: due(41, "ready(" + ship + ")", x.ready(ship), y.ready(ship)); break;
            default:
                for (int what = -1; what < 3; what++) {
                    due(42, "cost(" + what + ")", x.cost(what), y.cost(what));
                }
        }
    }
}
