import java.util.ArrayDeque;
import java.util.ArrayList;
import java.util.Deque;
import java.util.HashSet;
import java.util.List;
import java.util.NoSuchElementException;
import java.util.Set;
import java.util.regex.Matcher;
import java.util.regex.Pattern;

/** The document once more, by lists, copies and trying all there is: what TwinTest holds BlendYard against. */
final class SlowYard {
    private record Lot(int tonnes, int grade) { }

    private record Ship(int needs, int low, int high, int due, int load, int fine) { }

    private record Fraction(long up, long down) {
        static Fraction of(long up, long down) {
            long divisor = java.math.BigInteger.valueOf(up).gcd(java.math.BigInteger.valueOf(down)).longValue();
            return new Fraction(up / divisor, down / divisor);
        }

        int compare(Fraction other) {
            return Long.compare(up * other.down, other.up * down);
        }

        Fraction minus(Fraction other) {
            return of(up * other.down - other.up * down, down * other.down);
        }

        Fraction far(int aim) {
            return of(Math.abs(up - aim * down), down);
        }
    }

    private static final class Layer {
        int lot;
        int[] lying;

        Layer copy() {
            Layer c = new Layer();
            c.lot = lot;
            c.lying = lying.clone();
            return c;
        }
    }

    private static final class Order {
        int pile;
        int subject;
        int goal;
        int last;
        int t;
        int layer = -1;

        Order copy() {
            Order c = new Order();
            c.pile = pile;
            c.subject = subject;
            c.goal = goal;
            c.last = last;
            c.t = t;
            c.layer = layer;
            return c;
        }
    }

    private static final class Machine {
        int pile = -1;
        int cell = -1;
        int steps = 0;
        int way = 0;
        int waited = 0;
        List<Order> orders = new ArrayList<>();

        Machine copy() {
            Machine c = new Machine();
            c.pile = pile;
            c.cell = cell;
            c.steps = steps;
            c.way = way;
            c.waited = waited;
            for (Order o : orders) {
                c.orders.add(o.copy());
            }
            return c;
        }

        void go(int toPile, int toCell) {
            steps += pile == toPile ? Math.abs(cell - toCell) : 10;
            pile = toPile;
            cell = toCell;
        }
    }

    private static final class State {
        int day = 0;
        int minutes = 0;
        int[] left = new int[0];
        List<List<Layer>> piles = new ArrayList<>();
        int[] hold = new int[0];
        int[] ore = new int[0];
        int[] sailed = new int[0];
        Machine[] machines = {new Machine(), new Machine()};

        State copy() {
            State c = new State();
            c.day = day;
            c.minutes = minutes;
            c.left = left.clone();
            for (List<Layer> pile : piles) {
                List<Layer> layers = new ArrayList<>();
                for (Layer layer : pile) {
                    layers.add(layer.copy());
                }
                c.piles.add(layers);
            }
            c.hold = hold.clone();
            c.ore = ore.clone();
            c.sailed = sailed.clone();
            c.machines = new Machine[] {machines[0].copy(), machines[1].copy()};
            return c;
        }
    }

    private final StringBuilder tape = new StringBuilder();
    private List<Lot> lots = new ArrayList<>();
    private List<Integer> cells = new ArrayList<>();
    private List<Ship> ships = new ArrayList<>();
    private int gap = 1;
    private State s = new State();
    private Deque<State> done = new ArrayDeque<>();
    private State[] images = new State[2];
    private long under = 1;
    private long spreadUnder = 1;
    private long worstUnder = 1;

    int feed(int... numbers) {
        if (tape.length() > 580) {
            return -1;
        }
        for (int number : numbers) {
            for (int i = 3; i >= 0; i--) {
                tape.append((char) (number >>> 8 * i & 0xff));
            }
        }
        return tape.length();
    }

    // ---- the text: all faults are gathered, then the least is told

    private static final Pattern TOKENS = Pattern.compile("[a-z]+|[0-9]+|[^ \n]");
    private static final Set<String> KEPT = Set.of("lot", "pile", "ship", "gap", "tonnes", "grade", "cells",
        "needs", "low", "high", "due", "load", "fine");

    private record Token(String text, int place) { }

    private static String form(String first) {
        switch (first) {
            case "lot": return "NAME tonnes 1-9999 grade 0-999 ;";
            case "pile": return "NAME cells 2-12 ;";
            case "ship": return "NAME needs 1-999 low 0-999 high 0-999 due 1-99 load 1-20 ? fine 0-999 ;";
            case "gap": return "0-3 ;";
            default: return null;
        }
    }

    int text(int n) {
        if (n < 0 || n > tape.length()) {
            return -1;
        }
        String text = tape.substring(0, n);
        tape.setLength(0);
        List<Token> tokens = new ArrayList<>();
        Matcher m = TOKENS.matcher(text);
        while (m.find()) {
            tokens.add(new Token(m.group(), m.start()));
        }
        tokens.add(new Token("", n));
        List<Integer> faults = new ArrayList<>();
        List<Lot> newLots = new ArrayList<>();
        List<Integer> newCells = new ArrayList<>();
        List<Ship> newShips = new ArrayList<>();
        List<Integer> gaps = new ArrayList<>();
        Set<String> names = new HashSet<>();
        int lines = 0;
        int at = 0;
        boolean stopped = false;
        while (!stopped && at < tokens.size() - 1) {
            Token first = tokens.get(at++);
            String form = form(first.text);
            if (form == null) {
                faults.add(8 * first.place + 1);
                break;
            }
            List<Integer> numbers = new ArrayList<>();
            String[] parts = form.split(" ");
            for (int p = 0; p < parts.length && !stopped; p++) {
                Token token = tokens.get(at++);
                String part = parts[p];
                if (part.equals("?")) {
                    p += token.text.equals(";") ? 2 : 0;
                    at--;
                } else if (part.equals("NAME")) {
                    if (!token.text.matches("[a-z]{1,6}") || KEPT.contains(token.text)) {
                        faults.add(8 * token.place + 1);
                        stopped = true;
                    } else if (!names.add(token.text)) {
                        faults.add(8 * token.place + 2);
                    }
                } else if (part.contains("-")) {
                    if (!token.text.matches("[0-9]+")) {
                        faults.add(8 * token.place + 1);
                        stopped = true;
                    } else {
                        int low = Integer.parseInt(part.split("-")[0]);
                        int high = Integer.parseInt(part.split("-")[1]);
                        if (first.text.equals("ship") && numbers.size() == 2) {
                            low = numbers.get(1);
                        }
                        int number = token.text.length() > 4 ? -1 : Integer.parseInt(token.text);
                        if (number < low || number > high) {
                            faults.add(8 * token.place + 3);
                        }
                        numbers.add(number);
                    }
                } else if (!token.text.equals(part)) {
                    faults.add(8 * token.place + 1);
                    stopped = true;
                }
            }
            if (stopped) {
                at = tokens.size();
            }
            lines++;
            while (numbers.size() < 6) {
                numbers.add(0);
            }
            switch (first.text) {
                case "lot": newLots.add(new Lot(numbers.get(0), numbers.get(1))); break;
                case "pile": newCells.add(numbers.get(0)); break;
                case "ship": newShips.add(new Ship(numbers.get(0), numbers.get(1), numbers.get(2), numbers.get(3),
                    numbers.get(4), numbers.get(5))); break;
                default: gaps.add(numbers.get(0)); break;
            }
            if (gaps.size() > 1 && first.text.equals("gap")) {
                faults.add(8 * first.place + 2);
            }
            boolean many = first.text.equals("lot") && newLots.size() > 12
                || first.text.equals("pile") && newCells.size() > 3 || first.text.equals("ship") && newShips.size() > 8;
            if (many) {
                faults.add(8 * first.place + 4);
            }
        }
        if (!faults.isEmpty()) {
            return -2 - faults.stream().min(Integer::compare).get();
        }
        lots = newLots;
        cells = newCells;
        ships = newShips;
        gap = gaps.isEmpty() ? 1 : gaps.get(0);
        s = new State();
        s.left = lots.stream().mapToInt(Lot::tonnes).toArray();
        cells.forEach(c -> s.piles.add(new ArrayList<>()));
        s.hold = new int[ships.size()];
        s.ore = new int[ships.size()];
        s.sailed = ships.stream().mapToInt(x -> -1).toArray();
        done = new ArrayDeque<>();
        images = new State[2];
        under = 1;
        spreadUnder = 1;
        worstUnder = 1;
        return lines;
    }

    // ---- what there is

    private boolean isLot(int lot) {
        return lot >= 0 && lot < lots.size();
    }

    private boolean isPile(int pile) {
        return pile >= 0 && pile < cells.size();
    }

    private boolean isCell(int pile, int cell) {
        return isPile(pile) && cell >= 0 && cell < cells.get(pile);
    }

    private boolean isShip(int ship) {
        return ship >= 0 && ship < ships.size();
    }

    private boolean full(int ship) {
        return s.hold[ship] >= ships.get(ship).needs;
    }

    private int late(int ship) {
        return Math.max(0, (s.sailed[ship] < 0 ? s.day : s.sailed[ship]) - ships.get(ship).due);
    }

    int count(int what) {
        int sailed = 0;
        int late = 0;
        for (int ship = 0; ship < ships.size(); ship++) {
            sailed += s.sailed[ship] >= 0 ? 1 : 0;
            late += late(ship) > 0 ? 1 : 0;
        }
        Machine stacker = s.machines[0];
        Machine taker = s.machines[1];
        int held = (images[0] == null ? 0 : 1) + (images[1] == null ? 0 : 1);
        int[] all = {lots.size(), cells.size(), ships.size(), gap, s.day, sailed, stacker.steps, taker.steps,
            done.size(), held, tape.length(), late, stacker.orders.size(), taker.orders.size(), stacker.waited,
            taker.waited, s.minutes};
        return what < 0 || what >= all.length ? -1 : all[what];
    }

    int lot(int lot, int what) {
        if (!isLot(lot) || what < 0 || what > 2) {
            throw new NoSuchElementException();
        }
        return new int[] {lots.get(lot).tonnes, lots.get(lot).grade, s.left[lot]}[what];
    }

    int ship(int i, int what) {
        if (!isShip(i) || what < 0 || what > 9) {
            throw new NoSuchElementException();
        }
        Ship ship = ships.get(i);
        return new int[] {ship.needs, ship.low, ship.high, ship.due, ship.load, ship.fine, s.hold[i], s.sailed[i],
            late(i), late(i) * ship.fine}[what];
    }

    private int lying(int pile, int cell) {
        return s.piles.get(pile).stream().mapToInt(layer -> layer.lying[cell]).sum();
    }

    private int ore(int pile, int cell) {
        return s.piles.get(pile).stream().mapToInt(layer -> layer.lying[cell] * lots.get(layer.lot).grade).sum();
    }

    private int lyingAll(int pile) {
        int sum = 0;
        for (int cell = 0; cell < cells.get(pile); cell++) {
            sum += lying(pile, cell);
        }
        return sum;
    }

    private int oreAll(int pile) {
        int sum = 0;
        for (int cell = 0; cell < cells.get(pile); cell++) {
            sum += ore(pile, cell);
        }
        return sum;
    }

    int pile(int pile, int what) {
        if (!isPile(pile) || what < 0 || what > 2) {
            return -2;
        }
        return new int[] {cells.get(pile), s.piles.get(pile).size(), lyingAll(pile)}[what];
    }

    int layer(int pile, int layer, int what) {
        if (!isPile(pile) || layer < 0 || layer >= s.piles.get(pile).size() || what < 0 || what > 2) {
            return -2;
        }
        Layer l = s.piles.get(pile).get(layer);
        int sum = 0;
        int bits = 0;
        for (int cell = 0; cell < l.lying.length; cell++) {
            sum += l.lying[cell];
            bits += l.lying[cell] > 0 ? 1 << cell : 0;
        }
        return new int[] {l.lot, sum, bits}[what];
    }

    int tonnes(int pile, int layer, int cell) {
        if (!isCell(pile, cell) || layer < 0 || layer >= s.piles.get(pile).size()) {
            return -2;
        }
        return s.piles.get(pile).get(layer).lying[cell];
    }

    int stands(int machine) {
        if (machine != 0 && machine != 1) {
            return -2;
        }
        Machine m = s.machines[machine];
        return m.pile < 0 ? -1 : 100 * m.pile + m.cell;
    }

    int apart() {
        Machine a = s.machines[0];
        Machine b = s.machines[1];
        return a.pile < 0 || a.pile != b.pile ? -2 : Math.abs(a.cell - b.cell);
    }

    // ---- what is done

    private void keep() {
        done.push(s.copy());
        if (done.size() > 12) {
            done.removeLast();
        }
    }

    private boolean sweepIsFree(int machine, int pile, int... stops) {
        Machine me = s.machines[machine];
        Machine other = s.machines[1 - machine];
        if (other.pile != pile) {
            return true;
        }
        int at = me.pile == pile ? me.cell : stops[0];
        for (int stop : stops) {
            while (true) {
                if (Math.abs(at - other.cell) <= gap) {
                    return false;
                }
                if (at == stop) {
                    break;
                }
                at += at < stop ? 1 : -1;
            }
        }
        return true;
    }

    int whyLay(int pile, int lot, int from, int to, int t) {
        if (!isLot(lot) || !isCell(pile, from) || !isCell(pile, to) || t < 1 || t > 99) {
            return 1;
        }
        if ((Math.abs(from - to) + 1) * t > s.left[lot]) {
            return 2;
        }
        if (!sweepIsFree(0, pile, from, to)) {
            return 4;
        }
        return s.piles.get(pile).size() == 60 ? 5 : 0;
    }

    private Layer newLayer(int pile, int lot) {
        Layer layer = new Layer();
        layer.lot = lot;
        layer.lying = new int[cells.get(pile)];
        s.piles.get(pile).add(layer);
        return layer;
    }

    private void layNow(int pile, int lot, int from, int to, int t) {
        Layer layer = newLayer(pile, lot);
        for (int cell = 0; cell < layer.lying.length; cell++) {
            if ((cell - from) * (cell - to) <= 0) {
                layer.lying[cell] = t;
                s.left[lot] -= t;
            }
        }
    }

    int lay(int pile, int lot, int from, int to, int t) {
        if (whyLay(pile, lot, from, to, t) != 0) {
            return -1;
        }
        keep();
        Machine m = s.machines[0];
        int before = m.steps;
        m.go(pile, from);
        m.go(pile, to);
        m.way = 0;
        layNow(pile, lot, from, to, t);
        return m.steps - before;
    }

    int whyCut(int pile, int cell, int ship) {
        if (!isCell(pile, cell) || !isShip(ship)) {
            return 1;
        }
        if (lying(pile, cell) == 0) {
            return 2;
        }
        if (s.sailed[ship] >= 0 || full(ship)) {
            return 3;
        }
        return sweepIsFree(1, pile, cell) ? 0 : 4;
    }

    private int cutNow(int pile, int cell, int ship) {
        int cut = lying(pile, cell);
        s.hold[ship] += cut;
        s.ore[ship] += ore(pile, cell);
        s.piles.get(pile).forEach(layer -> layer.lying[cell] = 0);
        return cut;
    }

    int cut(int pile, int cell, int ship) {
        if (whyCut(pile, cell, ship) != 0) {
            return -1;
        }
        keep();
        s.machines[1].go(pile, cell);
        s.machines[1].way = 0;
        return cutNow(pile, cell, ship);
    }

    boolean park(int machine) {
        if (machine < 0 || machine > 1 || s.machines[machine].pile < 0) {
            return false;
        }
        keep();
        s.machines[machine].pile = -1;
        s.machines[machine].cell = -1;
        s.machines[machine].way = 0;
        return true;
    }

    private boolean inBounds(int ship, long ore, long tonnes) {
        Fraction grade = Fraction.of(ore, tonnes);
        return grade.compare(new Fraction(ships.get(ship).low, 1)) >= 0
            && grade.compare(new Fraction(ships.get(ship).high, 1)) <= 0;
    }

    int sail(int ship) {
        if (!isShip(ship) || s.sailed[ship] >= 0 || !full(ship) || !inBounds(ship, s.ore[ship], s.hold[ship])) {
            return -1;
        }
        keep();
        s.sailed[ship] = s.day;
        return late(ship);
    }

    int days(int n) {
        if (n < 1 || n > 99 || s.day + n > 999) {
            return -1;
        }
        keep();
        s.day += n;
        return s.day;
    }

    private int addOrder(int machine, int pile, int subject, int goal, int last, int t) {
        List<Order> orders = s.machines[machine].orders;
        if (orders.size() == 8) {
            return -1;
        }
        keep();
        Order order = new Order();
        order.pile = pile;
        order.subject = subject;
        order.goal = goal;
        order.last = last;
        order.t = t;
        s.machines[machine].orders.add(order);
        return s.machines[machine].orders.size();
    }

    int toLay(int pile, int lot, int from, int to, int t) {
        boolean good = isLot(lot) && isCell(pile, from) && isCell(pile, to) && t >= 1 && t <= 99;
        return good ? addOrder(0, pile, lot, from, to, t) : -1;
    }

    int toCut(int pile, int cell, int ship) {
        return isCell(pile, cell) && isShip(ship) ? addOrder(1, pile, ship, cell, cell, 0) : -1;
    }

    int drop(int machine) {
        if (machine < 0 || machine > 1 || s.machines[machine].orders.isEmpty()) {
            return -1;
        }
        keep();
        int n = s.machines[machine].orders.size();
        s.machines[machine].orders.clear();
        s.machines[machine].way = 0;
        return n;
    }

    private boolean free(int machine, int pile, int cell) {
        Machine other = s.machines[1 - machine];
        return other.pile != pile || Math.abs(other.cell - cell) > gap;
    }

    /** "works", "waits" or "" without an order. */
    private String act(int machine) {
        Machine m = s.machines[machine];
        if (m.orders.isEmpty()) {
            return "";
        }
        Order o = m.orders.get(0);
        if (m.pile != o.pile) {
            boolean tenAlready = m.way == 10;
            m.way = Math.min(10, m.way + 1);
            if (m.way == 10 && free(machine, o.pile, o.goal)) {
                m.go(o.pile, o.goal);
                m.way = 0;
                return "works";
            }
            return tenAlready ? "waits" : "works";
        }
        if (m.cell != o.goal) {
            int nearer = m.cell + Integer.signum(o.goal - m.cell);
            if (!free(machine, o.pile, nearer)) {
                return "waits";
            }
            m.go(o.pile, nearer);
            return "works";
        }
        boolean finished = machine == 1 ? cutByOrder(o) : layByOrder(m, o);
        if (finished) {
            m.orders.remove(0);
            m.way = 0;
        }
        return "works";
    }

    private boolean cutByOrder(Order o) {
        if (s.sailed[o.subject] < 0 && !full(o.subject)) {
            cutNow(o.pile, o.goal, o.subject);
        }
        return true;
    }

    private boolean layByOrder(Machine m, Order o) {
        int t = Math.min(o.t, s.left[o.subject]);
        if (t == 0) {
            return true;
        }
        if (o.layer < 0) {
            if (s.piles.get(o.pile).size() == 60) {
                return true;
            }
            newLayer(o.pile, o.subject);
            o.layer = s.piles.get(o.pile).size() - 1;
        }
        s.piles.get(o.pile).get(o.layer).lying[o.goal] += t;
        s.left[o.subject] -= t;
        if (o.goal == o.last) {
            return true;
        }
        o.goal += o.goal < o.last ? 1 : -1;
        if (free(0, o.pile, o.goal)) {
            m.go(o.pile, o.goal);
        }
        return false;
    }

    private boolean minute() {
        String taker = act(1);
        String stacker = act(0);
        s.machines[0].waited += stacker.equals("waits") ? 1 : 0;
        s.machines[1].waited += taker.equals("waits") ? 1 : 0;
        s.minutes++;
        return Set.of("waitswaits", "waits").contains(taker + stacker);
    }

    int minutes(int n) {
        if (n < 1 || n > 200) {
            return -1;
        }
        keep();
        int sum = 0;
        for (int i = 0; i < n; i++) {
            sum += minute() ? 1 : 0;
        }
        return sum;
    }

    int ends() {
        State real = s;
        s = real.copy();
        int n = 0;
        while (n < 500 && s.machines[0].orders.size() + s.machines[1].orders.size() > 0) {
            minute();
            n++;
        }
        boolean none = s.machines[0].orders.isEmpty() && s.machines[1].orders.isEmpty();
        s = real;
        return none ? n : -2;
    }

    int undo() {
        if (done.isEmpty()) {
            return -1;
        }
        s = done.pop();
        return done.size();
    }

    boolean image(int k, boolean back) {
        if (k < 0 || k > 1 || back && images[k] == null) {
            return false;
        }
        if (back) {
            s = images[k].copy();
            done.clear();
        } else {
            images[k] = s.copy();
        }
        return true;
    }

    // ---- grades

    private int tell(long ore, long tonnes) {
        if (tonnes == 0) {
            return -2;
        }
        Fraction f = Fraction.of(ore, tonnes);
        under = f.down;
        return (int) f.up;
    }

    int cell(int pile, int cell) {
        return isCell(pile, cell) ? tell(ore(pile, cell), lying(pile, cell)) : -1;
    }

    int whole(int pile) {
        return isPile(pile) ? tell(oreAll(pile), lyingAll(pile)) : -1;
    }

    int hold(int ship) {
        return isShip(ship) ? tell(s.ore[ship], s.hold[ship]) : -1;
    }

    int below() {
        return (int) under;
    }

    private List<Fraction> grades(int pile) {
        List<Fraction> all = new ArrayList<>();
        for (int cell = 0; cell < cells.get(pile); cell++) {
            all.add(lying(pile, cell) == 0 ? null : Fraction.of(ore(pile, cell), lying(pile, cell)));
        }
        return all;
    }

    int within(int pile, int low, int high) {
        if (!isPile(pile) || low < 0 || high > 999 || low > high) {
            return -1;
        }
        int bits = 0;
        List<Fraction> all = grades(pile);
        for (int cell = 0; cell < all.size(); cell++) {
            Fraction g = all.get(cell);
            if (g != null && g.compare(new Fraction(low, 1)) >= 0 && g.compare(new Fraction(high, 1)) <= 0) {
                bits |= 1 << cell;
            }
        }
        return bits;
    }

    long spread(int pile) {
        if (!isPile(pile)) {
            return -1;
        }
        Fraction widest = null;
        for (Fraction a : grades(pile)) {
            for (Fraction b : grades(pile)) {
                if (a != null && b != null && (widest == null || a.minus(b).compare(widest) > 0)) {
                    widest = a.minus(b);
                }
            }
        }
        if (widest == null) {
            return -2;
        }
        spreadUnder = widest.down;
        return widest.up;
    }

    long spreadBelow() {
        return spreadUnder;
    }

    int ifLaid(int pile, int lot, int from, int to, int t, int cell) {
        if (!isCell(pile, cell) || whyLay(pile, lot, from, to, t) != 0) {
            return -1;
        }
        State real = s;
        s = real.copy();
        layNow(pile, lot, from, to, t);
        int told = cell(pile, cell);
        s = real;
        return told;
    }

    // ---- what is best

    private Fraction bestWorst;

    /** Null where layOrder() answers NONE. */
    private List<Integer> bestOrder(int bits, int aim) {
        if (Integer.bitCount(bits) < 2 || Integer.bitCount(bits) > 6 || aim < 0 || aim > 999) {
            return null;
        }
        List<Integer> some = new ArrayList<>();
        for (int lot = 0; lot < 32; lot++) {
            if ((bits >>> lot & 1) == 1) {
                if (!isLot(lot)) {
                    return null;
                }
                if (s.left[lot] > 0) {
                    some.add(lot);
                }
            }
        }
        if (some.isEmpty()) {
            return null;
        }
        bestWorst = null;
        List<List<Integer>> best = new ArrayList<>();
        tryOrders(some, new ArrayList<>(), aim, best);
        return best.get(0);
    }

    private void tryOrders(List<Integer> some, List<Integer> begun, int aim, List<List<Integer>> best) {
        if (begun.size() < some.size()) {
            for (int lot : some) {
                if (!begun.contains(lot)) {
                    begun.add(lot);
                    tryOrders(some, begun, aim, best);
                    begun.remove(begun.size() - 1);
                }
            }
            return;
        }
        Fraction worst = new Fraction(0, 1);
        long ore = 0;
        long tonnes = 0;
        for (int lot : begun) {
            ore += (long) s.left[lot] * lots.get(lot).grade;
            tonnes += s.left[lot];
            Fraction far = Fraction.of(ore, tonnes).far(aim);
            worst = far.compare(worst) > 0 ? far : worst;
        }
        if (bestWorst == null || worst.compare(bestWorst) < 0) {
            bestWorst = worst;
            best.clear();
            best.add(new ArrayList<>(begun));
        }
    }

    int layOrder(int bits, int aim, int k) {
        List<Integer> order = bestOrder(bits, aim);
        if (order == null) {
            return -1;
        }
        return k < 0 || k >= order.size() ? -2 : order.get(k);
    }

    long worst(int bits, int aim) {
        if (bestOrder(bits, aim) == null) {
            return -1;
        }
        worstUnder = bestWorst.down;
        return bestWorst.up;
    }

    long worstBelow() {
        return worstUnder;
    }

    int next(int pile, int t, int aim) {
        if (!isPile(pile) || t < 1 || t > 99 || aim < 0 || aim > 999) {
            return -1;
        }
        int all = t * cells.get(pile);
        int best = -2;
        Fraction nearest = null;
        for (int lot = 0; lot < lots.size(); lot++) {
            if (s.left[lot] >= all) {
                long ore = oreAll(pile) + (long) all * lots.get(lot).grade;
                Fraction far = Fraction.of(ore, lyingAll(pile) + all).far(aim);
                if (nearest == null || far.compare(nearest) < 0) {
                    nearest = far;
                    best = lot;
                }
            }
        }
        return best;
    }

    int way(int ship, int pile, int what) {
        if (!isShip(ship) || !isPile(pile) || what < 0 || what > 2 || s.sailed[ship] >= 0 || full(ship)) {
            return -1;
        }
        int[] best = null;
        for (int set = 1; set < 1 << cells.get(pile); set++) {
            int[] found = wayOf(ship, pile, set);
            if (found != null && (best == null || java.util.Arrays.compare(found, best) < 0)) {
                best = found;
            }
        }
        return best == null ? -2 : new int[] {best[0], best[2], best[3]}[what];
    }

    /** Steps, how many cells, bits, tonnes; null if the set is no way. */
    private int[] wayOf(int ship, int pile, int set) {
        List<Integer> up = new ArrayList<>();
        long tonnes = s.hold[ship];
        long ore = s.ore[ship];
        for (int cell = 0; cell < cells.get(pile); cell++) {
            if ((set >> cell & 1) == 1) {
                if (lying(pile, cell) == 0) {
                    return null;
                }
                up.add(cell);
                tonnes += lying(pile, cell);
                ore += ore(pile, cell);
            }
        }
        int low = up.get(0);
        int high = up.get(up.size() - 1);
        Machine taker = s.machines[1];
        int lowFirst = (taker.pile == pile ? Math.abs(taker.cell - low) : 10) + high - low;
        int highFirst = (taker.pile == pile ? Math.abs(taker.cell - high) : 10) + high - low;
        int last = lowFirst <= highFirst ? high : low;
        int needs = ships.get(ship).needs;
        boolean fills = tonnes >= needs && tonnes - lying(pile, last) < needs;
        if (!fills || !inBounds(ship, ore, tonnes)) {
            return null;
        }
        return new int[] {Math.min(lowFirst, highFirst), up.size(), set, (int) tonnes};
    }

    // ---- ships

    private List<Integer> waiting() {
        List<Integer> all = new ArrayList<>();
        for (int ship = 0; ship < ships.size(); ship++) {
            if (s.sailed[ship] < 0) {
                all.add(ship);
            }
        }
        return all;
    }

    private List<Integer> byDue() {
        List<Integer> all = waiting();
        all.sort((a, b) -> ships.get(a).due - ships.get(b).due);
        return all;
    }

    private int inTime(List<Integer> some) {
        int day = s.day - 1;
        int n = 0;
        for (int ship : some) {
            day += ships.get(ship).load;
            n += day <= ships.get(ship).due ? 1 : 0;
        }
        return n;
    }

    int fewest() {
        List<Integer> sorted = byDue();
        int most = 0;
        for (int set = 0; set < 1 << sorted.size(); set++) {
            List<Integer> some = new ArrayList<>();
            for (int i = 0; i < sorted.size(); i++) {
                if ((set >> i & 1) == 1) {
                    some.add(sorted.get(i));
                }
            }
            if (inTime(some) == some.size()) {
                most = Math.max(most, some.size());
            }
        }
        return sorted.size() - most;
    }

    private List<Integer> plan() {
        List<Integer> taken = new ArrayList<>();
        for (int ship : byDue()) {
            taken.add(ship);
            if (inTime(taken) < taken.size()) {
                int off = taken.stream().max((a, b) -> ships.get(a).load != ships.get(b).load
                    ? ships.get(a).load - ships.get(b).load : a - b).get();
                taken.remove(Integer.valueOf(off));
            }
        }
        for (int ship : waiting()) {
            if (!taken.contains(ship)) {
                taken.add(ship);
            }
        }
        return taken;
    }

    int order(int k) {
        List<Integer> plan = plan();
        if (k == -1) {
            return plan.size();
        }
        return k < 0 || k >= plan.size() ? -2 : plan.get(k);
    }

    int ready(int ship) {
        if (!isShip(ship)) {
            return -1;
        }
        int day = s.day - 1;
        for (int next : plan()) {
            day += ships.get(next).load;
            if (next == ship) {
                return day;
            }
        }
        return -2;
    }

    int cost(int what) {
        if (what != 0 && what != 1) {
            return -1;
        }
        int sum = 0;
        for (int ship = 0; ship < ships.size(); ship++) {
            boolean planned = what == 1 && s.sailed[ship] < 0;
            int late = planned ? Math.max(0, ready(ship) - ships.get(ship).due) : late(ship);
            sum += late * ships.get(ship).fine;
        }
        return sum;
    }
}
