import java.util.NoSuchElementException;

/** A yard of blended piles, their stacker, their taker and the ships; ../shared/DOC.md says what each call promises. */
public final class BlendYard {
    public static final int NONE = -1;

    private static final int OTHER = -2;
    private static final int STACKER = 0;
    private static final int TAKER = 1;
    private static final int MACHINES = 2;
    private static final int TAPE_BYTES = 600;
    private static final int FED_BYTES = 20;
    private static final int MAX_LOTS = 12;
    private static final int MAX_PILES = 3;
    private static final int MAX_CELLS = 12;
    private static final int MAX_SHIPS = 8;
    private static final int MAX_LAYERS = 60;
    private static final int MAX_ORDERS = 8;
    private static final int MAX_ACROSS = 99;
    private static final int MAX_GRADE = 999;
    private static final int MAX_DAY = 999;
    private static final int MAX_DAYS = 99;
    private static final int MAX_MINUTES = 200;
    private static final int MAX_THOUGHT = 500;
    private static final int FAR_STEPS = 10;

    private final int[] tape = new int[TAPE_BYTES];
    private int taped = 0;
    private final Reader reader = new Reader();
    private Told told = new Told();
    private Told spare = new Told();
    private final State now = new State();
    private final State thought = new State();
    private final History history = new History();
    private final Loading loading = new Loading();
    private final Blend blend = new Blend();
    private final Route route = new Route();
    private int gradeUnder = 1;
    private long spreadUnder = 1;
    private long worstUnder = 1;

    public BlendYard() {
    }

    public int feed(int a, int b, int c, int d, int e) {
        if (taped + FED_BYTES > TAPE_BYTES) {
            return NONE;
        }
        putBytes(a);
        putBytes(b);
        putBytes(c);
        putBytes(d);
        putBytes(e);
        return taped;
    }

    public int text(int n) {
        if (n < 0 || n > taped) {
            return NONE;
        }
        taped = 0;
        int fault = reader.read(tape, n, spare);
        if (fault != 0) {
            return OTHER - fault;
        }
        Told last = told;
        told = spare;
        spare = last;
        now.begin(told);
        history.forgetAll();
        gradeUnder = 1;
        spreadUnder = 1;
        worstUnder = 1;
        return told.lines;
    }

    public int count(int what) {
        switch (what) {
            case 0: return told.lots;
            case 1: return told.piles;
            case 2: return told.ships;
            case 3: return told.gap;
            case 4: return now.today;
            case 5: return shipsSailed();
            case 6: return now.walked[STACKER];
            case 7: return now.walked[TAKER];
            case 8: return history.held;
            case 9: return history.imagesHeld();
            case 10: return taped;
            case 11: return shipsLate();
            case 12: return now.ordered[STACKER];
            case 13: return now.ordered[TAKER];
            case 14: return now.waited[STACKER];
            case 15: return now.waited[TAKER];
            case 16: return now.passed;
            default: return NONE;
        }
    }

    public int lot(int lot, int what) throws NoSuchElementException {
        if (!told.hasLot(lot) || what < 0 || what > 2) {
            throw new NoSuchElementException();
        }
        if (what == 0) {
            return told.lotTonnes[lot];
        }
        return what == 1 ? told.lotGrade[lot] : now.left[lot];
    }

    public int ship(int ship, int what) throws NoSuchElementException {
        if (!told.hasShip(ship) || what < 0 || what > 9) {
            throw new NoSuchElementException();
        }
        switch (what) {
            case 0: return told.needs[ship];
            case 1: return told.lowest[ship];
            case 2: return told.highest[ship];
            case 3: return told.due[ship];
            case 4: return told.load[ship];
            case 5: return told.fine[ship];
            case 6: return now.holdTonnes[ship];
            case 7: return now.sailed[ship];
            case 8: return lateDays(ship);
            default: return lateDays(ship) * told.fine[ship];
        }
    }

    public int pile(int pile, int what) {
        if (!told.hasPile(pile) || what < 0 || what > 2) {
            return OTHER;
        }
        if (what == 0) {
            return told.cells[pile];
        }
        return what == 1 ? now.layers[pile] : now.tonnesOfPile(told, pile);
    }

    public int layer(int pile, int layer, int what) {
        if (!hasLayer(pile, layer) || what < 0 || what > 2) {
            return OTHER;
        }
        if (what == 0) {
            return now.layerLot[State.rowOf(pile, layer)];
        }
        int lying = 0;
        int bits = 0;
        for (int cell = 0; cell < told.cells[pile]; cell++) {
            int t = now.tonnesAt[State.placeOf(pile, layer, cell)];
            lying += t;
            bits |= t > 0 ? 1 << cell : 0;
        }
        return what == 1 ? lying : bits;
    }

    public int tonnes(int pile, int layer, int cell) {
        if (!hasLayer(pile, layer) || !told.hasCell(pile, cell)) {
            return OTHER;
        }
        return now.tonnesAt[State.placeOf(pile, layer, cell)];
    }

    public int stands(int machine) {
        return isMachine(machine) ? now.standing[machine] : OTHER;
    }

    public int apart() {
        int pile = now.pileOf(STACKER);
        if (pile == NONE || now.pileOf(TAKER) != pile) {
            return OTHER;
        }
        return Math.abs(now.cellOf(STACKER) - now.cellOf(TAKER));
    }

    // ---- what is done

    public int whyLay(int pile, int lot, int from, int to, int t) {
        if (!canBeTold(pile, lot, from, to, t)) {
            return 1;
        }
        if (t * (Math.abs(to - from) + 1) > now.left[lot]) {
            return 2;
        }
        if (!staysApart(STACKER, pile, from, to)) {
            return 4;
        }
        return now.layers[pile] >= MAX_LAYERS ? 5 : 0;
    }

    public int lay(int pile, int lot, int from, int to, int t) {
        if (whyLay(pile, lot, from, to, t) != 0) {
            return NONE;
        }
        history.keep(now);
        int before = now.walked[STACKER];
        now.goTo(STACKER, pile, from);
        now.goTo(STACKER, pile, to);
        int layer = now.addLayer(pile, lot);
        int high = Math.max(from, to);
        for (int cell = Math.min(from, to); cell <= high; cell++) {
            now.pour(pile, layer, cell, t);
        }
        now.onWay[STACKER] = 0;
        return now.walked[STACKER] - before;
    }

    public int whyCut(int pile, int cell, int ship) {
        if (!told.hasCell(pile, cell) || !told.hasShip(ship)) {
            return 1;
        }
        if (now.tonnesOn(pile, cell) == 0) {
            return 2;
        }
        if (!now.takesMore(told, ship)) {
            return 3;
        }
        return staysApart(TAKER, pile, cell, cell) ? 0 : 4;
    }

    public int cut(int pile, int cell, int ship) {
        if (whyCut(pile, cell, ship) != 0) {
            return NONE;
        }
        history.keep(now);
        now.goTo(TAKER, pile, cell);
        now.onWay[TAKER] = 0;
        return now.moveIntoHold(told, pile, cell, ship);
    }

    public boolean park(int machine) {
        if (!isMachine(machine) || now.standing[machine] == NONE) {
            return false;
        }
        history.keep(now);
        now.standing[machine] = NONE;
        now.onWay[machine] = 0;
        return true;
    }

    public int sail(int ship) {
        if (!told.hasShip(ship) || now.sailed[ship] != NONE || now.takesMore(told, ship)) {
            return NONE;
        }
        if (!told.isWithin(ship, now.holdTonnes[ship], now.holdOre[ship])) {
            return NONE;
        }
        history.keep(now);
        now.sailed[ship] = now.today;
        return lateDays(ship);
    }

    public int days(int n) {
        if (n < 1 || n > MAX_DAYS || now.today + n > MAX_DAY) {
            return NONE;
        }
        history.keep(now);
        now.today += n;
        return now.today;
    }

    public int toLay(int pile, int lot, int from, int to, int t) {
        if (!canBeTold(pile, lot, from, to, t) || now.ordered[STACKER] >= MAX_ORDERS) {
            return NONE;
        }
        history.keep(now);
        now.addOrder(STACKER, pile, lot, from, to, t);
        return now.ordered[STACKER];
    }

    public int toCut(int pile, int cell, int ship) {
        if (!told.hasCell(pile, cell) || !told.hasShip(ship) || now.ordered[TAKER] >= MAX_ORDERS) {
            return NONE;
        }
        history.keep(now);
        now.addOrder(TAKER, pile, ship, cell, cell, 0);
        return now.ordered[TAKER];
    }

    public int drop(int machine) {
        if (!isMachine(machine) || now.ordered[machine] == 0) {
            return NONE;
        }
        history.keep(now);
        int dropped = now.ordered[machine];
        now.ordered[machine] = 0;
        now.onWay[machine] = 0;
        return dropped;
    }

    public int minutes(int n) {
        if (n < 1 || n > MAX_MINUTES) {
            return NONE;
        }
        history.keep(now);
        int stuck = 0;
        for (int i = 0; i < n; i++) {
            if (Minute.passes(told, now)) {
                stuck++;
            }
        }
        return stuck;
    }

    public int ends() {
        thought.copyFrom(now);
        for (int n = 0; n < MAX_THOUGHT; n++) {
            if (!thought.hasOrders()) {
                return n;
            }
            Minute.passes(told, thought);
        }
        return thought.hasOrders() ? OTHER : MAX_THOUGHT;
    }

    public int undo() {
        return history.takeBack(now) ? history.held : NONE;
    }

    public boolean image(int k, boolean back) {
        return back ? history.restoreImage(k, now) : history.layImage(k, now);
    }

    // ---- grades

    public int cell(int pile, int cell) {
        if (!told.hasCell(pile, cell)) {
            return NONE;
        }
        return tellGrade(now.tonnesOn(pile, cell), now.oreOn(told, pile, cell));
    }

    public int whole(int pile) {
        if (!told.hasPile(pile)) {
            return NONE;
        }
        return tellGrade(now.tonnesOfPile(told, pile), now.oreOfPile(told, pile));
    }

    public int hold(int ship) {
        if (!told.hasShip(ship)) {
            return NONE;
        }
        return tellGrade(now.holdTonnes[ship], now.holdOre[ship]);
    }

    public int below() {
        return gradeUnder;
    }

    public int within(int pile, int low, int high) {
        if (!told.hasPile(pile) || !isGrade(low) || !isGrade(high) || low > high) {
            return NONE;
        }
        int bits = 0;
        for (int cell = 0; cell < told.cells[pile]; cell++) {
            int t = now.tonnesOn(pile, cell);
            int ore = now.oreOn(told, pile, cell);
            if (t > 0 && ore >= low * t && ore <= high * t) {
                bits |= 1 << cell;
            }
        }
        return bits;
    }

    public long spread(int pile) {
        if (!told.hasPile(pile)) {
            return NONE;
        }
        long leastOre = 0;
        long leastTonnes = 0;
        long mostOre = 0;
        long mostTonnes = 0;
        for (int cell = 0; cell < told.cells[pile]; cell++) {
            long t = now.tonnesOn(pile, cell);
            long ore = now.oreOn(told, pile, cell);
            if (t > 0 && (leastTonnes == 0 || ore * leastTonnes < leastOre * t)) {
                leastOre = ore;
                leastTonnes = t;
            }
            if (t > 0 && (mostTonnes == 0 || ore * mostTonnes > mostOre * t)) {
                mostOre = ore;
                mostTonnes = t;
            }
        }
        if (leastTonnes == 0) {
            return OTHER;
        }
        long up = mostOre * leastTonnes - leastOre * mostTonnes;
        long divisor = commonDivisor(up, mostTonnes * leastTonnes);
        spreadUnder = mostTonnes * leastTonnes / divisor;
        return up / divisor;
    }

    public long spreadBelow() {
        return spreadUnder;
    }

    public int ifLaid(int pile, int lot, int from, int to, int t, int cell) {
        if (!told.hasCell(pile, cell) || whyLay(pile, lot, from, to, t) != 0) {
            return NONE;
        }
        boolean reached = cell >= Math.min(from, to) && cell <= Math.max(from, to);
        int more = reached ? t : 0;
        return tellGrade(now.tonnesOn(pile, cell) + more, now.oreOn(told, pile, cell) + more * told.lotGrade[lot]);
    }

    // ---- what is best

    public int layOrder(int lots, int aim, int k) {
        if (!isGrade(aim) || !blend.find(told, now, lots, aim)) {
            return NONE;
        }
        return k < 0 || k >= blend.size ? OTHER : blend.sequence[k];
    }

    public long worst(int lots, int aim) {
        if (!isGrade(aim) || !blend.find(told, now, lots, aim)) {
            return NONE;
        }
        long divisor = commonDivisor(blend.worstUp, blend.worstDown);
        worstUnder = blend.worstDown / divisor;
        return blend.worstUp / divisor;
    }

    public long worstBelow() {
        return worstUnder;
    }

    public int next(int pile, int t, int aim) {
        if (!told.hasPile(pile) || t < 1 || t > MAX_ACROSS || !isGrade(aim)) {
            return NONE;
        }
        int laid = t * told.cells[pile];
        int lying = now.tonnesOfPile(told, pile);
        int ore = now.oreOfPile(told, pile);
        int best = OTHER;
        int bestFar = 0;
        for (int lot = 0; lot < told.lots; lot++) {
            // The tonnes are the same whichever LOT it is: how far they are need not be divided by them.
            int far = Math.abs(ore + laid * told.lotGrade[lot] - aim * (lying + laid));
            if (now.left[lot] >= laid && (best == OTHER || far < bestFar)) {
                best = lot;
                bestFar = far;
            }
        }
        return best;
    }

    public int way(int ship, int pile, int what) {
        if (!told.hasShip(ship) || !told.hasPile(pile) || what < 0 || what > 2 || !now.takesMore(told, ship)) {
            return NONE;
        }
        if (!route.find(told, now, ship, pile)) {
            return OTHER;
        }
        if (what == 0) {
            return route.bestSteps;
        }
        return what == 1 ? route.bestCells : route.bestTonnes;
    }

    // ---- ships

    public int fewest() {
        loading.plan(told, now);
        return loading.putOff;
    }

    public int order(int k) {
        loading.plan(told, now);
        if (k == NONE) {
            return loading.size;
        }
        return k < 0 || k >= loading.size ? OTHER : loading.sequence[k];
    }

    public int ready(int ship) {
        if (!told.hasShip(ship)) {
            return NONE;
        }
        if (now.sailed[ship] != NONE) {
            return OTHER;
        }
        loading.plan(told, now);
        return loading.lastDay[ship];
    }

    public int cost(int what) {
        if (what < 0 || what > 1) {
            return NONE;
        }
        if (what == 1) {
            loading.plan(told, now);
        }
        int all = 0;
        for (int ship = 0; ship < told.ships; ship++) {
            boolean planned = what == 1 && now.sailed[ship] == NONE;
            int late = planned ? Math.max(0, loading.lastDay[ship] - told.due[ship]) : lateDays(ship);
            all += late * told.fine[ship];
        }
        return all;
    }

    // ---- what the calls share

    private void putBytes(int four) {
        for (int shift = 24; shift >= 0 && taped < TAPE_BYTES; shift -= 8) {
            tape[taped] = (four >> shift) & 255;
            taped++;
        }
    }

    private static boolean isMachine(int machine) {
        return machine >= 0 && machine < MACHINES;
    }

    private static boolean isGrade(int grade) {
        return grade >= 0 && grade <= MAX_GRADE;
    }

    private boolean hasLayer(int pile, int layer) {
        return told.hasPile(pile) && layer >= 0 && layer < now.layers[pile];
    }

    private boolean canBeTold(int pile, int lot, int from, int to, int t) {
        return told.hasLot(lot) && told.hasCell(pile, from) && told.hasCell(pile, to) && t >= 1 && t <= MAX_ACROSS;
    }

    private boolean staysApart(int machine, int pile, int from, int to) {
        int other = 1 - machine;
        if (now.pileOf(other) != pile) {
            return true;
        }
        int low = Math.min(from, to);
        int high = Math.max(from, to);
        if (now.pileOf(machine) == pile) {
            low = Math.min(low, now.cellOf(machine));
            high = Math.max(high, now.cellOf(machine));
        }
        int inTheWay = now.cellOf(other);
        return inTheWay + told.gap < low || inTheWay - told.gap > high;
    }

    private int shipsSailed() {
        int n = 0;
        for (int ship = 0; ship < told.ships; ship++) {
            n += now.sailed[ship] == NONE ? 0 : 1;
        }
        return n;
    }

    private int shipsLate() {
        int n = 0;
        for (int ship = 0; ship < told.ships; ship++) {
            n += lateDays(ship) > 0 ? 1 : 0;
        }
        return n;
    }

    private int lateDays(int ship) {
        int when = now.sailed[ship] == NONE ? now.today : now.sailed[ship];
        return Math.max(0, when - told.due[ship]);
    }

    private int tellGrade(int t, int ore) {
        if (t == 0) {
            return OTHER;
        }
        int divisor = (int) commonDivisor(ore, t);
        if (divisor == 0) {
            return OTHER;
        }
        gradeUnder = t / divisor;
        return ore / divisor;
    }

    /** At least 1, whatever the numbers are, so that it can divide. */
    private static long commonDivisor(long a, long b) {
        // Numbers of 64 bits need fewer than 100 rounds.
        for (int round = 0; round < 100 && b != 0; round++) {
            long rest = a % b;
            a = b;
            b = rest;
        }
        return Math.max(1, a);
    }

    /** What the TEXT tells; it stays until the next TEXT. */
    private static final class Told {
        int lines = 0;
        int gap = 1;
        int lots = 0;
        int piles = 0;
        int ships = 0;
        final int[] lotTonnes = new int[MAX_LOTS];
        final int[] lotGrade = new int[MAX_LOTS];
        final int[] cells = new int[MAX_PILES];
        final int[] needs = new int[MAX_SHIPS];
        final int[] lowest = new int[MAX_SHIPS];
        final int[] highest = new int[MAX_SHIPS];
        final int[] due = new int[MAX_SHIPS];
        final int[] load = new int[MAX_SHIPS];
        final int[] fine = new int[MAX_SHIPS];

        void clear() {
            lines = 0;
            gap = 1;
            lots = 0;
            piles = 0;
            ships = 0;
        }

        boolean hasLot(int lot) {
            return lot >= 0 && lot < lots;
        }

        boolean hasPile(int pile) {
            return pile >= 0 && pile < piles;
        }

        boolean hasCell(int pile, int cell) {
            return hasPile(pile) && cell >= 0 && cell < cells[pile];
        }

        boolean hasShip(int ship) {
            return ship >= 0 && ship < ships;
        }

        boolean isWithin(int ship, int tonnes, int ore) {
            return ore >= lowest[ship] * tonnes && ore <= highest[ship] * tonnes;
        }
    }

    /** Reads a TEXT from left to right, so that the FAULT met first is the one whose place is least. */
    private static final class Reader {
        private static final int END = 0;
        private static final int WORD = 1;
        private static final int NUMBER = 2;
        private static final int SEMICOLON = 3;
        private static final int STRANGE = 4;
        private static final int NOT_A_TEXT = 1;
        private static final int TWICE = 2;
        private static final int CANNOT_BE = 3;
        private static final int TOO_MANY = 4;
        private static final int NAME_LETTERS = 6;
        private static final int NUMBER_DIGITS = 4;

        private int[] bytes = new int[0];
        private int length = 0;
        private int start = 0;
        private int end = 0;
        private int kind = END;
        private int fault = 0;
        private boolean gapTold = false;
        private Told into = new Told();
        private final int[] names = new int[MAX_LOTS + MAX_PILES + MAX_SHIPS];
        private int named = 0;

        /** The FAULT as 8 * place + kind, 0 if there is none. */
        int read(int[] tape, int n, Told told) {
            bytes = tape;
            length = Math.min(n, tape.length);
            end = 0;
            fault = 0;
            gapTold = false;
            into = told;
            named = 0;
            told.clear();
            advance();
            for (int line = 0; line < TAPE_BYTES && kind != END && fault == 0; line++) {
                readLine();
                told.lines++;
            }
            return fault;
        }

        private void readLine() {
            if (says("lot")) {
                readLot();
            } else if (says("pile")) {
                readPile();
            } else if (says("ship")) {
                readShip();
            } else if (says("gap")) {
                readGap();
            } else {
                fail(NOT_A_TEXT);
            }
            if (fault == 0 && kind == SEMICOLON) {
                advance();
            } else {
                fail(NOT_A_TEXT);
            }
        }

        private void readLot() {
            if (into.lots >= MAX_LOTS) {
                fail(TOO_MANY);
                return;
            }
            advance();
            takeName();
            into.lotTonnes[into.lots] = takeTold("tonnes", 1, 9999);
            into.lotGrade[into.lots] = takeTold("grade", 0, MAX_GRADE);
            into.lots++;
        }

        private void readPile() {
            if (into.piles >= MAX_PILES) {
                fail(TOO_MANY);
                return;
            }
            advance();
            takeName();
            into.cells[into.piles] = takeTold("cells", 2, MAX_CELLS);
            into.piles++;
        }

        private void readShip() {
            if (into.ships >= MAX_SHIPS) {
                fail(TOO_MANY);
                return;
            }
            int ship = into.ships;
            advance();
            takeName();
            into.needs[ship] = takeTold("needs", 1, 999);
            into.lowest[ship] = takeTold("low", 0, MAX_GRADE);
            into.highest[ship] = takeTold("high", into.lowest[ship], MAX_GRADE);
            into.due[ship] = takeTold("due", 1, 99);
            into.load[ship] = takeTold("load", 1, 20);
            into.fine[ship] = says("fine") ? takeTold("fine", 0, 999) : 0;
            into.ships++;
        }

        private void readGap() {
            if (gapTold) {
                fail(TWICE);
                return;
            }
            gapTold = true;
            into.gap = takeTold("gap", 0, 3);
        }

        private void takeName() {
            if (fault != 0) {
                return;
            }
            if (kind != WORD || end - start > NAME_LETTERS || isKept()) {
                fail(NOT_A_TEXT);
                return;
            }
            int name = 0;
            for (int i = start; i < end; i++) {
                name = name * 27 + bytes[i] - 'a' + 1;
            }
            for (int i = 0; i < named; i++) {
                if (names[i] == name) {
                    fail(TWICE);
                    return;
                }
            }
            if (named < names.length) {
                names[named] = name;
                named++;
            }
            advance();
        }

        /** The NUMBER behind a word; NONE with a FAULT. */
        private int takeTold(String word, int low, int high) {
            if (fault == 0 && !says(word)) {
                fail(NOT_A_TEXT);
            }
            if (fault != 0) {
                return NONE;
            }
            advance();
            if (kind != NUMBER) {
                fail(NOT_A_TEXT);
                return NONE;
            }
            int number = end - start > NUMBER_DIGITS ? NONE : numberHere();
            if (number < low || number > high) {
                fail(CANNOT_BE);
                return NONE;
            }
            advance();
            return number;
        }

        private int numberHere() {
            int number = 0;
            for (int i = start; i < end; i++) {
                number = number * 10 + bytes[i] - '0';
            }
            return number;
        }

        /** Only the first FAULT counts: those met later stand further right. */
        private void fail(int why) {
            if (fault == 0) {
                fault = 8 * start + why;
            }
        }

        private boolean says(String word) {
            if (kind != WORD || end - start != word.length()) {
                return false;
            }
            for (int i = 0; i < word.length(); i++) {
                if (bytes[start + i] != word.charAt(i)) {
                    return false;
                }
            }
            return true;
        }

        private boolean isKept() {
            return says("lot") || says("pile") || says("ship") || says("gap")
                || says("tonnes") || says("grade") || says("cells") || says("needs")
                || says("low") || says("high") || says("due") || says("load") || says("fine");
        }

        private void advance() {
            start = end;
            while (start < length && (bytes[start] == ' ' || bytes[start] == '\n')) {
                start++;
            }
            end = start;
            if (start >= length) {
                kind = END;
            } else if (isLetter(start)) {
                kind = WORD;
                while (end < length && isLetter(end)) {
                    end++;
                }
            } else if (isDigit(start)) {
                kind = NUMBER;
                while (end < length && isDigit(end)) {
                    end++;
                }
            } else {
                kind = bytes[start] == ';' ? SEMICOLON : STRANGE;
                end++;
            }
        }

        private boolean isLetter(int i) {
            return bytes[i] >= 'a' && bytes[i] <= 'z';
        }

        private boolean isDigit(int i) {
            return bytes[i] >= '0' && bytes[i] <= '9';
        }
    }

    /** All that what is done can change. */
    private static final class State {
        private static final int ORDER_FIELDS = 6;
        static final int PILE = 0;
        static final int SUBJECT = 1;
        static final int GOAL = 2;
        static final int LAST = 3;
        static final int ACROSS = 4;
        static final int LAYER = 5;

        int today = 0;
        int passed = 0;
        final int[] left = new int[MAX_LOTS];
        final int[] layers = new int[MAX_PILES];
        final int[] layerLot = new int[MAX_PILES * MAX_LAYERS];
        final int[] tonnesAt = new int[MAX_PILES * MAX_LAYERS * MAX_CELLS];
        final int[] holdTonnes = new int[MAX_SHIPS];
        final int[] holdOre = new int[MAX_SHIPS];
        final int[] sailed = new int[MAX_SHIPS];
        final int[] standing = {NONE, NONE};
        final int[] walked = new int[MACHINES];
        final int[] onWay = new int[MACHINES];
        final int[] waited = new int[MACHINES];
        final int[] ordered = new int[MACHINES];
        final int[] orders = new int[MACHINES * MAX_ORDERS * ORDER_FIELDS];

        void begin(Told told) {
            today = 0;
            passed = 0;
            for (int lot = 0; lot < MAX_LOTS; lot++) {
                left[lot] = told.lotTonnes[lot];
            }
            for (int pile = 0; pile < MAX_PILES; pile++) {
                layers[pile] = 0;
            }
            for (int ship = 0; ship < MAX_SHIPS; ship++) {
                holdTonnes[ship] = 0;
                holdOre[ship] = 0;
                sailed[ship] = NONE;
            }
            for (int machine = 0; machine < MACHINES; machine++) {
                standing[machine] = NONE;
                walked[machine] = 0;
                onWay[machine] = 0;
                waited[machine] = 0;
                ordered[machine] = 0;
            }
        }

        /** LAYERS that are not there are not copied: addLayer() clears each one as it comes. */
        void copyFrom(State from) {
            today = from.today;
            passed = from.passed;
            System.arraycopy(from.left, 0, left, 0, MAX_LOTS);
            System.arraycopy(from.layers, 0, layers, 0, MAX_PILES);
            for (int pile = 0; pile < MAX_PILES; pile++) {
                int row = rowOf(pile, 0);
                System.arraycopy(from.layerLot, row, layerLot, row, layers[pile]);
                int place = placeOf(pile, 0, 0);
                System.arraycopy(from.tonnesAt, place, tonnesAt, place, layers[pile] * MAX_CELLS);
            }
            System.arraycopy(from.holdTonnes, 0, holdTonnes, 0, MAX_SHIPS);
            System.arraycopy(from.holdOre, 0, holdOre, 0, MAX_SHIPS);
            System.arraycopy(from.sailed, 0, sailed, 0, MAX_SHIPS);
            System.arraycopy(from.standing, 0, standing, 0, MACHINES);
            System.arraycopy(from.walked, 0, walked, 0, MACHINES);
            System.arraycopy(from.onWay, 0, onWay, 0, MACHINES);
            System.arraycopy(from.waited, 0, waited, 0, MACHINES);
            System.arraycopy(from.ordered, 0, ordered, 0, MACHINES);
            System.arraycopy(from.orders, 0, orders, 0, orders.length);
        }

        static int rowOf(int pile, int layer) {
            return pile * MAX_LAYERS + layer;
        }

        static int placeOf(int pile, int layer, int cell) {
            return (pile * MAX_LAYERS + layer) * MAX_CELLS + cell;
        }

        int pileOf(int machine) {
            return standing[machine] == NONE ? NONE : standing[machine] / 100;
        }

        int cellOf(int machine) {
            return standing[machine] == NONE ? NONE : standing[machine] % 100;
        }

        void goTo(int machine, int pile, int cell) {
            boolean near = pileOf(machine) == pile;
            walked[machine] += near ? Math.abs(cellOf(machine) - cell) : FAR_STEPS;
            standing[machine] = 100 * pile + cell;
        }

        boolean isFree(Told told, int machine, int pile, int cell) {
            int other = 1 - machine;
            return pileOf(other) != pile || Math.abs(cellOf(other) - cell) > told.gap;
        }

        int tonnesOn(int pile, int cell) {
            int sum = 0;
            for (int layer = 0; layer < layers[pile]; layer++) {
                sum += tonnesAt[placeOf(pile, layer, cell)];
            }
            return sum;
        }

        /** Tonnes times grades, which by the tonnes are the GRADE. */
        int oreOn(Told told, int pile, int cell) {
            int sum = 0;
            for (int layer = 0; layer < layers[pile]; layer++) {
                sum += tonnesAt[placeOf(pile, layer, cell)] * told.lotGrade[layerLot[rowOf(pile, layer)]];
            }
            return sum;
        }

        int tonnesOfPile(Told told, int pile) {
            int sum = 0;
            for (int cell = 0; cell < told.cells[pile]; cell++) {
                sum += tonnesOn(pile, cell);
            }
            return sum;
        }

        int oreOfPile(Told told, int pile) {
            int sum = 0;
            for (int cell = 0; cell < told.cells[pile]; cell++) {
                sum += oreOn(told, pile, cell);
            }
            return sum;
        }

        int addLayer(int pile, int lot) {
            int layer = layers[pile];
            layerLot[rowOf(pile, layer)] = lot;
            for (int cell = 0; cell < MAX_CELLS; cell++) {
                tonnesAt[placeOf(pile, layer, cell)] = 0;
            }
            layers[pile]++;
            return layer;
        }

        void pour(int pile, int layer, int cell, int tonnes) {
            tonnesAt[placeOf(pile, layer, cell)] += tonnes;
            left[layerLot[rowOf(pile, layer)]] -= tonnes;
        }

        boolean takesMore(Told told, int ship) {
            return sailed[ship] == NONE && holdTonnes[ship] < told.needs[ship];
        }

        int moveIntoHold(Told told, int pile, int cell, int ship) {
            int moved = tonnesOn(pile, cell);
            holdOre[ship] += oreOn(told, pile, cell);
            holdTonnes[ship] += moved;
            for (int layer = 0; layer < layers[pile]; layer++) {
                tonnesAt[placeOf(pile, layer, cell)] = 0;
            }
            return moved;
        }

        boolean hasOrders() {
            return ordered[STACKER] > 0 || ordered[TAKER] > 0;
        }

        /** Where the first ORDER of a machine stands among orders. */
        static int firstOrder(int machine) {
            return machine * MAX_ORDERS * ORDER_FIELDS;
        }

        void addOrder(int machine, int pile, int subject, int from, int to, int across) {
            int at = firstOrder(machine) + ordered[machine] * ORDER_FIELDS;
            orders[at + PILE] = pile;
            orders[at + SUBJECT] = subject;
            orders[at + GOAL] = from;
            orders[at + LAST] = to;
            orders[at + ACROSS] = across;
            orders[at + LAYER] = NONE;
            ordered[machine]++;
        }

        void endOrder(int machine) {
            int first = firstOrder(machine);
            ordered[machine]--;
            int moved = ordered[machine] * ORDER_FIELDS;
            for (int i = first; i < first + moved; i++) {
                orders[i] = orders[i + ORDER_FIELDS];
            }
            onWay[machine] = 0;
        }
    }

    /** One MINUTE of both machines. */
    private static final class Minute {
        /** Whether nothing went on in it: both WAITED, or one did, and the other one had no ORDER. */
        static boolean passes(Told told, State state) {
            boolean stackerBusy = state.ordered[STACKER] > 0;
            boolean takerBusy = state.ordered[TAKER] > 0;
            boolean takerWaits = takerBusy && isKeptWaiting(told, state, TAKER);
            boolean stackerWaits = stackerBusy && isKeptWaiting(told, state, STACKER);
            state.waited[TAKER] += takerWaits ? 1 : 0;
            state.waited[STACKER] += stackerWaits ? 1 : 0;
            state.passed++;
            boolean takerIdle = takerWaits || !takerBusy;
            boolean stackerIdle = stackerWaits || !stackerBusy;
            return takerIdle && stackerIdle && (takerWaits || stackerWaits);
        }

        /** Does one thing by the first ORDER, or answers that the machine WAITED. */
        private static boolean isKeptWaiting(Told told, State state, int machine) {
            int order = State.firstOrder(machine);
            int pile = state.orders[order + State.PILE];
            int goal = state.orders[order + State.GOAL];
            if (state.pileOf(machine) != pile) {
                return !travels(told, state, machine, pile, goal);
            }
            int at = state.cellOf(machine);
            if (at != goal) {
                return !moves(told, state, machine, pile, at < goal ? at + 1 : at - 1);
            }
            if (machine == TAKER) {
                cuts(told, state, pile, goal);
            } else {
                lays(told, state, pile, goal);
            }
            return false;
        }

        private static boolean travels(Told told, State state, int machine, int pile, int goal) {
            boolean wasThere = state.onWay[machine] >= FAR_STEPS;
            if (!wasThere) {
                state.onWay[machine]++;
            }
            if (state.onWay[machine] >= FAR_STEPS && moves(told, state, machine, pile, goal)) {
                state.onWay[machine] = 0;
                return true;
            }
            return !wasThere;
        }

        private static boolean moves(Told told, State state, int machine, int pile, int cell) {
            if (!state.isFree(told, machine, pile, cell)) {
                return false;
            }
            state.goTo(machine, pile, cell);
            return true;
        }

        private static void cuts(Told told, State state, int pile, int goal) {
            int ship = state.orders[State.firstOrder(TAKER) + State.SUBJECT];
            if (state.takesMore(told, ship)) {
                state.moveIntoHold(told, pile, goal, ship);
            }
            state.endOrder(TAKER);
        }

        private static void lays(Told told, State state, int pile, int goal) {
            int order = State.firstOrder(STACKER);
            int lot = state.orders[order + State.SUBJECT];
            int last = state.orders[order + State.LAST];
            int layer = state.orders[order + State.LAYER];
            int laid = Math.min(state.orders[order + State.ACROSS], state.left[lot]);
            if (laid == 0 || (layer == NONE && state.layers[pile] >= MAX_LAYERS)) {
                state.endOrder(STACKER);
                return;
            }
            if (layer == NONE) {
                layer = state.addLayer(pile, lot);
                state.orders[order + State.LAYER] = layer;
            }
            state.pour(pile, layer, goal, laid);
            if (goal == last) {
                state.endOrder(STACKER);
                return;
            }
            int following = goal < last ? goal + 1 : goal - 1;
            state.orders[order + State.GOAL] = following;
            moves(told, state, STACKER, pile, following);
        }
    }

    /** What was done, to be taken back, and the IMAGES; made as they are needed first, then used again. */
    private static final class History {
        private static final int MAX_HELD = 12;
        private static final int IMAGES = 2;

        private final State[] kept = new State[MAX_HELD];
        private int oldest = 0;
        int held = 0;
        private final State[] images = new State[IMAGES];
        private final boolean[] imageLaid = new boolean[IMAGES];

        void forgetAll() {
            held = 0;
            for (int k = 0; k < IMAGES; k++) {
                imageLaid[k] = false;
            }
        }

        int imagesHeld() {
            int n = 0;
            for (int k = 0; k < IMAGES; k++) {
                n += imageLaid[k] ? 1 : 0;
            }
            return n;
        }

        void keep(State state) {
            int at = (oldest + held) % MAX_HELD;
            if (held == MAX_HELD) {
                oldest = (oldest + 1) % MAX_HELD;
            } else {
                held++;
            }
            if (kept[at] == null) {
                kept[at] = new State();
            }
            kept[at].copyFrom(state);
        }

        boolean takeBack(State state) {
            if (held == 0) {
                return false;
            }
            State last = kept[(oldest + held - 1) % MAX_HELD];
            if (last == null) {
                return false;
            }
            held--;
            state.copyFrom(last);
            return true;
        }

        boolean layImage(int k, State state) {
            if (k < 0 || k >= IMAGES) {
                return false;
            }
            if (images[k] == null) {
                images[k] = new State();
            }
            images[k].copyFrom(state);
            imageLaid[k] = true;
            return true;
        }

        boolean restoreImage(int k, State state) {
            if (k < 0 || k >= IMAGES || !imageLaid[k] || images[k] == null) {
                return false;
            }
            state.copyFrom(images[k]);
            held = 0;
            return true;
        }
    }

    /** The PLAN of the SHIPS that did not sail yet, by ORDER. */
    private static final class Loading {
        int size = 0;
        int putOff = 0;
        final int[] sequence = new int[MAX_SHIPS];
        final int[] lastDay = new int[MAX_SHIPS];
        private final int[] byDue = new int[MAX_SHIPS];
        private final boolean[] inTime = new boolean[MAX_SHIPS];

        void plan(Told told, State state) {
            sortByDue(told, state);
            putOff = 0;
            int day = state.today - 1;
            for (int i = 0; i < size; i++) {
                int ship = byDue[i];
                inTime[ship] = true;
                day += told.load[ship];
                if (day > told.due[ship]) {
                    int off = longestLoad(told, i);
                    inTime[off] = false;
                    day -= told.load[off];
                    putOff++;
                }
            }
            putInOrder(told, state);
        }

        private void sortByDue(Told told, State state) {
            size = 0;
            for (int ship = 0; ship < told.ships; ship++) {
                if (state.sailed[ship] == NONE) {
                    int at = size;
                    while (at > 0 && told.due[byDue[at - 1]] > told.due[ship]) {
                        byDue[at] = byDue[at - 1];
                        at--;
                    }
                    byDue[at] = ship;
                    size++;
                }
            }
        }

        private int longestLoad(Told told, int lastTaken) {
            int longest = byDue[lastTaken];
            for (int i = 0; i < lastTaken; i++) {
                int ship = byDue[i];
                boolean longer = told.load[ship] > told.load[longest];
                boolean alike = told.load[ship] == told.load[longest] && ship > longest;
                if (inTime[ship] && (longer || alike)) {
                    longest = ship;
                }
            }
            return longest;
        }

        private void putInOrder(Told told, State state) {
            int filled = 0;
            for (int i = 0; i < size; i++) {
                if (inTime[byDue[i]]) {
                    sequence[filled] = byDue[i];
                    filled++;
                }
            }
            for (int ship = 0; ship < told.ships; ship++) {
                if (state.sailed[ship] == NONE && !inTime[ship]) {
                    sequence[filled] = ship;
                    filled++;
                }
            }
            int day = state.today - 1;
            for (int i = 0; i < size; i++) {
                day += told.load[sequence[i]];
                lastDay[sequence[i]] = day;
            }
        }
    }

    /** LAY ORDER: how far a beginning is from the aim depends on which LOTS are in it alone, not on their order. */
    private static final class Blend {
        private static final int LEAST_LOTS = 2;
        private static final int MOST_LOTS = 6;

        int size = 0;
        final int[] sequence = new int[MOST_LOTS];
        long worstUp = 0;
        long worstDown = 1;
        private final int[] lots = new int[MOST_LOTS];
        // Of a set of LOTS that are laid: the least WORST from it on to all.
        private final long[] up = new long[1 << MOST_LOTS];
        private final long[] down = new long[1 << MOST_LOTS];

        /** False if these LOTS have no LAY ORDER. */
        boolean find(Told told, State state, int bits, int aim) {
            int asked = Integer.bitCount(bits);
            if (asked < LEAST_LOTS || asked > MOST_LOTS || bits >>> told.lots != 0) {
                return false;
            }
            size = 0;
            for (int lot = 0; lot < told.lots; lot++) {
                if ((bits >> lot & 1) == 1 && state.left[lot] > 0 && size < MOST_LOTS) {
                    lots[size] = lot;
                    size++;
                }
            }
            if (size == 0) {
                return false;
            }
            int all = (1 << size) - 1;
            for (int set = all; set > 0; set--) {
                measure(told, state, set, aim);
                if (set != all) {
                    raiseTo(set, bestFrom(set));
                }
            }
            putInOrder();
            return true;
        }

        private void measure(Told told, State state, int set, int aim) {
            long ore = 0;
            long tonnes = 0;
            for (int i = 0; i < size; i++) {
                if ((set >> i & 1) == 1) {
                    long t = state.left[lots[i]];
                    tonnes += t;
                    ore += t * told.lotGrade[lots[i]];
                }
            }
            up[set] = Math.abs(ore - aim * tonnes);
            down[set] = tonnes;
        }

        private int bestFrom(int set) {
            int best = 0;
            for (int i = 0; i < size; i++) {
                int with = set | 1 << i;
                if (with != set && (best == 0 || isNearer(with, best))) {
                    best = with;
                }
            }
            return best;
        }

        private boolean isNearer(int set, int than) {
            return up[set] * down[than] < up[than] * down[set];
        }

        private void raiseTo(int set, int following) {
            if (isNearer(set, following)) {
                up[set] = up[following];
                down[set] = down[following];
            }
        }

        private void putInOrder() {
            int best = bestFrom(0);
            worstUp = up[best];
            worstDown = down[best];
            int set = 0;
            for (int k = 0; k < size; k++) {
                int i = firstGood(set);
                sequence[k] = lots[i];
                set |= 1 << i;
            }
        }

        private int firstGood(int set) {
            for (int i = 0; i < size; i++) {
                int with = set | 1 << i;
                if (with != set && up[with] * worstDown <= worstUp * down[with]) {
                    return i;
                }
            }
            return 0;
        }
    }

    /** WAY of the TAKER for a SHIP, by trying all sets of CELLS. */
    private static final class Route {
        int bestSteps = 0;
        int bestCells = 0;
        int bestTonnes = 0;
        private final int[] filled = new int[MAX_CELLS];
        private final int[] tonnes = new int[MAX_CELLS];
        private final int[] ore = new int[MAX_CELLS];
        private int startsAt = NONE;
        private int holdTonnes = 0;
        private int holdOre = 0;

        boolean find(Told told, State state, int ship, int pile) {
            bestCells = 0;
            startsAt = state.pileOf(TAKER) == pile ? state.cellOf(TAKER) : NONE;
            holdTonnes = state.holdTonnes[ship];
            holdOre = state.holdOre[ship];
            int many = weighCells(told, state, pile);
            int set = 0;
            // From each set to the next one a single CELL comes or goes, so that the sums need not be made anew.
            for (int i = 1; i < 1 << many; i++) {
                int cell = filled[Integer.numberOfTrailingZeros(i)];
                set ^= 1 << cell;
                int sign = (set >> cell & 1) == 1 ? 1 : -1;
                holdTonnes += sign * tonnes[cell];
                holdOre += sign * ore[cell];
                if (holdTonnes >= told.needs[ship] && told.isWithin(ship, holdTonnes, holdOre)) {
                    consider(set, told.needs[ship]);
                }
            }
            return bestCells != 0;
        }

        private int weighCells(Told told, State state, int pile) {
            int many = 0;
            for (int cell = 0; cell < told.cells[pile]; cell++) {
                tonnes[cell] = state.tonnesOn(pile, cell);
                ore[cell] = state.oreOn(told, pile, cell);
                if (tonnes[cell] > 0) {
                    filled[many] = cell;
                    many++;
                }
            }
            return many;
        }

        private void consider(int set, int needs) {
            int low = Integer.numberOfTrailingZeros(set);
            int high = 31 - Integer.numberOfLeadingZeros(set);
            if (low < 0 || high >= MAX_CELLS) {
                return;
            }
            int toLow = startsAt == NONE ? FAR_STEPS : Math.abs(startsAt - low);
            int toHigh = startsAt == NONE ? FAR_STEPS : Math.abs(startsAt - high);
            int last = toLow <= toHigh ? high : low;
            int steps = Math.min(toLow, toHigh) + high - low;
            if (holdTonnes - tonnes[last] < needs && isBetter(steps, set)) {
                bestSteps = steps;
                bestCells = set;
                bestTonnes = holdTonnes;
            }
        }

        private boolean isBetter(int steps, int set) {
            if (bestCells == 0 || steps != bestSteps) {
                return bestCells == 0 || steps < bestSteps;
            }
            int more = Integer.bitCount(set) - Integer.bitCount(bestCells);
            return more < 0 || (more == 0 && set < bestCells);
        }
    }
}
