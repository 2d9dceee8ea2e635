import java.util.ArrayDeque;
import java.util.ArrayList;
import java.util.Arrays;
import java.util.HashMap;
import java.util.List;
import java.util.Map;
import java.util.PriorityQueue;
import java.util.TreeMap;
import java.util.function.IntPredicate;
import java.util.function.Predicate;

/**
 * The document once more, as plainly as it can be said and with the whole library: all states are
 * listed and all steps between them, an undo is a copy of everything. RandomRuns holds it against
 * SwingCrane.
 */
final class PlainCrane {
    record State(int column, int speed, int sway, int last, int depth) {
        boolean still() {
            return speed == 0 && sway == 0 && last == 0;
        }
    }

    record Entry(char letter, boolean lifted, int tick) {
    }

    record Snapshot(State now, List<Integer> piles, boolean holds, int tick, int gone, List<Entry> log) {
    }

    static final class Fault extends Exception {
        final int kind;
        final int place;

        Fault(int kind, int place) {
            this.kind = kind;
            this.place = place;
        }
    }

    record Token(String text, int place) {
    }

    /** What a text says. */
    static final class World {
        final Map<String, Integer> once = new HashMap<>();
        final List<int[]> blocks = new ArrayList<>();
        final Map<String, int[]> spots = new java.util.LinkedHashMap<>();
        final TreeMap<Integer, Integer> winds = new TreeMap<>();
        final List<String> orders = new ArrayList<>();
        final Map<Integer, Integer> piles = new HashMap<>();
        final List<int[]> jobs = new ArrayList<>();
        int[] start = {0, 1};
        int doLines;
        int lines;

        int width() {
            return once.getOrDefault("width", 16);
        }

        int deep() {
            return once.getOrDefault("deep", 6);
        }

        int top() {
            return once.getOrDefault("top", 2);
        }

        int swing() {
            return once.getOrDefault("swing", 4);
        }

        int seed() {
            return once.getOrDefault("seed", 0);
        }

        int[] spot(int i) {
            return new ArrayList<>(spots.values()).get(i);
        }
    }

    private static final List<String> LINES = List.of("width", "deep", "top", "swing", "block", "spot", "start",
            "wind", "do", "pile", "job", "seed");
    private static final List<String> ORDERS = List.of("east", "west", "lift", "lower", "wait", "still");

    /** All states that stand, with the steps between them, for one set of piles. */
    final class Graph {
        final List<Integer> piles;
        final boolean holds;
        final List<State> states = new ArrayList<>();
        final Map<State, Integer> index = new HashMap<>();
        int[][] next;
        int[][] previous;
        final Map<String, int[]> known = new HashMap<>();

        Graph(List<Integer> piles, boolean holds) {
            this.piles = piles;
            this.holds = holds;
            for (int c = 0; c < world.width(); c++) {
                for (int v = -world.top(); v <= world.top(); v++) {
                    for (int s = -world.swing(); s <= world.swing(); s++) {
                        for (int l = -world.swing(); l <= world.swing(); l++) {
                            for (int d = 1; d <= world.deep(); d++) {
                                State state = new State(c, v, s, l, d);
                                if (whyNot(state, piles, holds) == 0) {
                                    index.put(state, states.size());
                                    states.add(state);
                                }
                            }
                        }
                    }
                }
            }
            int[] arrows = new int[states.size()];
            next = new int[states.size()][9];
            for (int i = 0; i < next.length; i++) {
                for (int code = 0; code < 9; code++) {
                    next[i][code] = index.getOrDefault(after(states.get(i), code, 0), -1);
                    if (next[i][code] >= 0) {
                        arrows[next[i][code]]++;
                    }
                }
            }
            previous = new int[next.length][];
            for (int i = 0; i < next.length; i++) {
                previous[i] = new int[arrows[i]];
            }
            for (int i = 0; i < next.length; i++) {
                for (int code = 0; code < 9; code++) {
                    int to = next[i][code];
                    if (to >= 0) {
                        previous[to][--arrows[to]] = i;
                    }
                }
            }
        }

        int at(State state) {
            return index.getOrDefault(state, -1);
        }

        /** Steps from each state to the nearest of the goals, -2 without a way. */
        int[] stepsTo(String name, Predicate<State> isGoal) {
            int[] kept = known.get(name);
            if (kept != null) {
                return kept;
            }
            int[] steps = new int[next.length];
            Arrays.fill(steps, -2);
            ArrayDeque<Integer> open = new ArrayDeque<>();
            for (int i = 0; i < steps.length; i++) {
                if (isGoal.test(states.get(i))) {
                    steps[i] = 0;
                    open.add(i);
                }
            }
            while (!open.isEmpty()) {
                int i = open.poll();
                for (int p : previous[i]) {
                    if (steps[p] < 0) {
                        steps[p] = steps[i] + 1;
                        open.add(p);
                    }
                }
            }
            known.put(name, steps);
            return steps;
        }

        int[] toAnyRest() {
            return stepsTo("any", State::still);
        }

        int[] toRest(int column, int depth) {
            State goal = new State(column, 0, 0, 0, depth);
            return stepsTo(column + "/" + depth, goal::equals);
        }

        int steps(State from, int column, int depth) {
            return at(from) < 0 ? -2 : toRest(column, depth)[at(from)];
        }

        /** The codes of the way by such steps, the first by codes. */
        List<Integer> way(State from, int[] steps) {
            if (at(from) < 0 || steps[at(from)] < 0) {
                return null;
            }
            List<Integer> codes = new ArrayList<>();
            for (int i = at(from); steps[i] > 0; ) {
                for (int code = 0; code < 9; code++) {
                    int to = next[i][code];
                    if (to >= 0 && steps[to] == steps[i] - 1) {
                        codes.add(code);
                        i = to;
                        break;
                    }
                }
            }
            return codes;
        }

        /** Cheapest row of steps, by the cost of a code and what may stand behind a step. */
        int cheapest(State from, State goal, java.util.function.IntUnaryOperator cost, IntPredicate allowed,
                Predicate<State> may) {
            if (at(from) < 0 || at(goal) < 0) {
                return -2;
            }
            int[] best = new int[next.length];
            Arrays.fill(best, Integer.MAX_VALUE);
            PriorityQueue<long[]> open = new PriorityQueue<>((x, y) -> Long.compare(x[0], y[0]));
            best[at(from)] = 0;
            open.add(new long[] {0, at(from)});
            while (!open.isEmpty()) {
                long[] nearest = open.poll();
                int i = (int) nearest[1];
                if (nearest[0] > best[i]) {
                    continue;
                }
                for (int code = 0; code < 9; code++) {
                    int to = next[i][code];
                    if (to >= 0 && allowed.test(code) && may.test(states.get(to))) {
                        int sum = best[i] + cost.applyAsInt(code);
                        if (sum < best[to]) {
                            best[to] = sum;
                            open.add(new long[] {sum, to});
                        }
                    }
                }
            }
            return best[at(goal)] == Integer.MAX_VALUE ? -2 : best[at(goal)];
        }
    }

    private final List<Byte> tape = new ArrayList<>();
    private World world = new World();
    private State now;
    private List<Integer> piles;
    private boolean holds;
    private int tick;
    private int gone;
    private List<Entry> log;
    private final List<Snapshot> past = new ArrayList<>();
    private Snapshot image;
    private int faultKind;
    private int faultPlace = -1;
    private final Map<String, Graph> graphs = new HashMap<>();

    PlainCrane() {
        begin();
    }

    private void begin() {
        now = new State(world.start[0], 0, 0, 0, world.start[1]);
        piles = new ArrayList<>();
        for (int c = 0; c < world.width(); c++) {
            piles.add(world.piles.getOrDefault(c, 0));
        }
        holds = false;
        tick = 0;
        gone = 0;
        log = new ArrayList<>();
        past.clear();
        image = null;
        graphs.clear();
    }

    private Graph graph(List<Integer> boxes, boolean holding) {
        return graphs.computeIfAbsent(boxes + " " + holding, k -> new Graph(new ArrayList<>(boxes), holding));
    }

    private Graph graph() {
        return graph(piles, holds);
    }

    private int freeOf(int column, List<Integer> boxes) {
        int free = world.deep();
        for (int[] block : world.blocks) {
            if (block[0] <= column && column <= block[1]) {
                free = Math.min(free, block[2]);
            }
        }
        return Math.max(0, free - boxes.get(column));
    }

    private static int swingOf(int depth) {
        return switch (depth) {
            case 1, 2 -> -1;
            case 3, 4 -> 0;
            default -> 1;
        };
    }

    private static State after(State s, int code, int wind) {
        int a = code / 3 - 1;
        int u = code % 3 - 1;
        int depth = s.depth + u;
        int speed = s.speed + a;
        return new State(s.column + speed, speed, swingOf(depth) * s.sway - s.last - a + wind, s.sway, depth);
    }

    private int whyNot(State s, List<Integer> boxes, boolean holding) {
        if (s.column < 0 || s.column >= world.width()) {
            return 1;
        }
        if (Math.abs(s.speed) > world.top()) {
            return 2;
        }
        if (s.depth < 1 || s.depth > world.deep()) {
            return 3;
        }
        if (Math.abs(s.sway) > world.swing()) {
            return 4;
        }
        int load = s.column + s.sway;
        if (load < 0 || load >= world.width()) {
            return 5;
        }
        for (int x = Math.min(s.column, load); x <= Math.max(s.column, load); x++) {
            int need = s.sway == 0 ? s.depth
                    : (int) Math.ceil(s.depth * Math.abs(x - s.column) / (double) Math.abs(s.sway) - 1e-9);
            if (x == load && holding) {
                need++;
            }
            if (need > freeOf(x, boxes)) {
                return 6;
            }
        }
        return 0;
    }

    private int whyNot(State s) {
        return whyNot(s, piles, holds);
    }

    // ---- the text

    int feed(int a, int b, int c, int d, int e) {
        if (tape.size() > 680) {
            return -1;
        }
        for (int number : new int[] {a, b, c, d, e}) {
            for (byte one : java.nio.ByteBuffer.allocate(4).putInt(number).array()) {
                tape.add(one);
            }
        }
        return tape.size();
    }

    int text(int n) {
        if (n < 0 || n > tape.size()) {
            return -2;
        }
        StringBuilder text = new StringBuilder();
        for (int i = 0; i < n; i++) {
            text.append((char) (tape.get(i) & 255));
        }
        tape.clear();
        try {
            World told = parse(text.toString());
            world = told;
            faultKind = 0;
            faultPlace = -1;
            begin();
            return told.lines;
        } catch (Fault f) {
            faultKind = f.kind;
            faultPlace = f.place;
            return -1;
        }
    }

    private static List<Token> tokens(String text) {
        List<Token> tokens = new ArrayList<>();
        java.util.regex.Matcher m =
                java.util.regex.Pattern.compile("[a-z]+|-?[0-9]+|[\\x00-\\xff]").matcher(text);
        while (m.find()) {
            if (!m.group().equals(" ") && !m.group().equals("\n")) {
                tokens.add(new Token(m.group(), m.start()));
            }
        }
        tokens.add(new Token("", text.length()));
        return tokens;
    }

    private static final class Cursor {
        final List<Token> tokens;
        int i;

        Cursor(List<Token> tokens) {
            this.tokens = tokens;
        }

        Token next() {
            Token t = tokens.get(i);
            i = Math.min(i + 1, tokens.size() - 1);
            return t;
        }

        int number(String form, int low, int high) throws Fault {
            Token t = next();
            if (!t.text.matches(form)) {
                throw new Fault(1, t.place);
            }
            java.math.BigInteger value = new java.math.BigInteger(t.text);
            if (value.compareTo(java.math.BigInteger.valueOf(low)) < 0
                    || value.compareTo(java.math.BigInteger.valueOf(high)) > 0) {
                throw new Fault(2, t.place);
            }
            return value.intValue();
        }

        int n(int low, int high) throws Fault {
            return number("[0-9]+", low, high);
        }
    }

    private static World parse(String text) throws Fault {
        World w = new World();
        Cursor at = new Cursor(tokens(text));
        boolean others = false;
        int told = 0;
        for (Token t = at.next(); !t.text.isEmpty(); t = at.next()) {
            if (!LINES.contains(t.text)) {
                throw new Fault(1, t.place);
            }
            int order = LINES.indexOf(t.text);
            if (order < 4 && others) {
                throw new Fault(1, t.place);
            }
            if (w.once.containsKey(t.text)) {
                throw new Fault(3, t.place);
            }
            parseLine(w, t, at);
            Token end = at.next();
            if (!end.text.equals(";")) {
                throw new Fault(1, end.place);
            }
            others |= order >= 4 && order < 11;
            told++;
        }
        w.lines = told;
        return w;
    }

    private static void tooMany(int have, int most, Token t) throws Fault {
        if (have >= most) {
            throw new Fault(2, t.place);
        }
    }

    private static void parseLine(World w, Token t, Cursor at) throws Fault {
        switch (t.text) {
            case "width" -> w.once.put("width", at.n(4, 16));
            case "deep" -> w.once.put("deep", at.n(2, 6));
            case "top" -> w.once.put("top", at.n(1, 2));
            case "swing" -> w.once.put("swing", at.n(1, 4));
            case "seed" -> w.once.put("seed", at.n(0, 99999));
            case "block" -> {
                tooMany(w.blocks.size(), 6, t);
                int first = at.n(0, w.width() - 1);
                w.blocks.add(new int[] {first, at.n(first, w.width() - 1), at.n(0, w.deep())});
            }
            case "spot" -> {
                tooMany(w.spots.size(), 6, t);
                Token name = at.next();
                if (!name.text.matches("[a-z]{1,6}") || LINES.contains(name.text) || ORDERS.contains(name.text)) {
                    throw new Fault(1, name.place);
                }
                if (w.spots.containsKey(name.text)) {
                    throw new Fault(3, name.place);
                }
                w.spots.put(name.text, new int[] {at.n(0, w.width() - 1), at.n(1, w.deep())});
            }
            case "start" -> {
                w.start = new int[] {at.n(0, w.width() - 1), at.n(1, w.deep())};
                w.once.put("start", 1);
            }
            case "wind" -> {
                tooMany(w.winds.size(), 8, t);
                int low = w.winds.isEmpty() ? 0 : w.winds.lastKey() + 1;
                int when = at.n(low, 999);
                w.winds.put(when, at.number("-?[0-9]+", -4, 4));
            }
            case "do" -> {
                tooMany(w.doLines, 16, t);
                Token order = at.next();
                if (!ORDERS.contains(order.text)) {
                    throw new Fault(1, order.place);
                }
                int times = at.n(1, 30);
                for (int i = 0; i < times; i++) {
                    w.orders.add(order.text);
                }
                w.doLines++;
            }
            case "pile" -> {
                tooMany(w.piles.size(), 8, t);
                Token column = at.tokens.get(at.i);
                int c = at.n(0, w.width() - 1);
                if (w.piles.containsKey(c)) {
                    throw new Fault(3, column.place);
                }
                w.piles.put(c, at.n(1, w.deep()));
            }
            default -> {
                tooMany(w.jobs.size(), 3, t);
                int from = at.n(0, w.width() - 1);
                Token second = at.tokens.get(at.i);
                int to = at.n(0, w.width() - 1);
                if (from == to) {
                    throw new Fault(2, second.place);
                }
                w.jobs.add(new int[] {from, to});
            }
        }
    }

    int fault(int what) {
        return what == 0 ? faultKind : what == 1 ? faultPlace : -1;
    }

    int named(int letters) {
        int number = 0;
        for (String name : world.spots.keySet()) {
            int packed = 0;
            for (int i = 0; i < 6; i++) {
                packed = packed * 32 + (i < name.length() ? name.charAt(i) - 'a' + 1 : 0);
            }
            if (packed == letters) {
                return number;
            }
            number++;
        }
        return -1;
    }

    // ---- moving

    private Snapshot snapshot() {
        return new Snapshot(now, new ArrayList<>(piles), holds, tick, gone, new ArrayList<>(log));
    }

    private void restore(Snapshot s) {
        now = s.now;
        piles = new ArrayList<>(s.piles);
        holds = s.holds;
        tick = s.tick;
        gone = s.gone;
        log = new ArrayList<>(s.log);
    }

    private void remember() {
        past.add(snapshot());
        if (past.size() > 30) {
            past.remove(0);
        }
    }

    private boolean tickOf(int code, boolean byFlow) {
        State to = after(now, code, wind(tick));
        if (tick == 9999 || whyNot(to) != 0) {
            return false;
        }
        remember();
        char letter = "wne".charAt(code / 3);
        boolean lowered = code % 3 == 2;
        log.add(new Entry(lowered ? Character.toUpperCase(letter) : letter, code % 3 == 0, tick));
        now = to;
        tick++;
        gone += byFlow ? 1 : 0;
        return true;
    }

    int step(int a, int u) {
        if (Math.abs((long) a) > 1 || Math.abs((long) u) > 1) {
            return -1;
        }
        return tickOf(3 * (a + 1) + u + 1, false) ? tick : -2;
    }

    private int stillCode(State s) {
        if (s.still()) {
            return 4;
        }
        List<Integer> way = graph().way(s, graph().toAnyRest());
        return way == null || way.isEmpty() ? 4 : way.get(0);
    }

    int flow(int n) {
        if (n < 1 || n > 40) {
            return -1;
        }
        int done = 0;
        while (done < n && gone < world.orders.size()) {
            int code = switch (world.orders.get(gone)) {
                case "east" -> 7;
                case "west" -> 1;
                case "lift" -> 3;
                case "lower" -> 5;
                case "wait" -> 4;
                default -> stillCode(now);
            };
            if (!tickOf(code, true)) {
                break;
            }
            done++;
        }
        return done;
    }

    int now(int what) {
        if (what < 0) {
            throw new IndexOutOfBoundsException();
        }
        if (what > 8) {
            throw new java.util.NoSuchElementException();
        }
        return new int[] {now.column, now.speed, now.sway, now.last, now.depth, now.column + now.sway,
            now.still() ? 1 : 0, whyNot(now), holds ? 1 : 0}[what];
    }

    boolean grab() {
        if (holds || !now.still() || whyNot(now) != 0 || piles.get(now.column) == 0
                || now.depth != free(now.column)) {
            return false;
        }
        remember();
        piles.set(now.column, piles.get(now.column) - 1);
        holds = true;
        return true;
    }

    boolean drop() {
        if (!holds || !now.still() || whyNot(now) != 0 || now.depth + 1 != free(now.column)) {
            return false;
        }
        remember();
        piles.set(now.column, piles.get(now.column) + 1);
        holds = false;
        return true;
    }

    private boolean isColumn(int column) {
        return column >= 0 && column < world.width();
    }

    private boolean isSpot(int spot) {
        return spot >= 0 && spot < world.spots.size();
    }

    int pile(int column) {
        return isColumn(column) ? piles.get(column) : -1;
    }

    int free(int column) {
        return isColumn(column) ? freeOf(column, piles) : -1;
    }

    int gap(int one, int other) {
        if (!isColumn(one) || !isColumn(other)) {
            return -1;
        }
        return java.util.stream.IntStream.rangeClosed(Math.min(one, other), Math.max(one, other))
                .map(this::free).min().getAsInt();
    }

    int wind(int when) {
        return world.winds.getOrDefault(when, 0);
    }

    int why(int code) {
        return code < 0 || code > 8 ? -1 : whyNot(after(now, code, 0));
    }

    int can() {
        int bits = 0;
        for (int code = 0; code < 9; code++) {
            bits += why(code) == 0 ? 1 << code : 0;
        }
        return bits;
    }

    int sway(int n) {
        if (n < 0 || n > 60) {
            return -100;
        }
        State s = now;
        for (int i = 0; i < n; i++) {
            s = after(s, 4, 0);
        }
        return s.sway;
    }

    int drift() {
        State s = now;
        for (int i = 0; i < 60; i++) {
            s = after(s, 4, wind(tick + i));
            if (tick + i == 9999 || whyNot(s) != 0) {
                return i;
            }
        }
        return 60;
    }

    // ---- ways

    private int[] toSpot(Graph g, int spot) {
        return g.toRest(world.spot(spot)[0], world.spot(spot)[1]);
    }

    private State rest(int spot) {
        return new State(world.spot(spot)[0], 0, 0, 0, world.spot(spot)[1]);
    }

    private int stepsFrom(Graph g, State s, int spot) {
        return g.at(s) < 0 ? -2 : toSpot(g, spot)[g.at(s)];
    }

    int fewest(int spot) {
        return isSpot(spot) ? stepsFrom(graph(), now, spot) : -1;
    }

    int by(int spot, int k) {
        if (!isSpot(spot) || k < 0) {
            return -1;
        }
        List<Integer> way = graph().way(now, toSpot(graph(), spot));
        return way == null || k >= way.size() ? -2 : way.get(k);
    }

    int halt() {
        Graph g = graph();
        return g.at(now) < 0 ? -2 : g.toAnyRest()[g.at(now)];
    }

    int rests(int what) {
        if (what != 0 && what != 1) {
            return -1;
        }
        List<Integer> way = graph().way(now, graph().toAnyRest());
        if (way == null) {
            return -2;
        }
        State s = now;
        for (int code : way) {
            s = after(s, code, 0);
        }
        return what == 0 ? s.column : s.depth;
    }

    int between(int one, int other) {
        if (!isSpot(one) || !isSpot(other)) {
            return -1;
        }
        return one == other ? 0 : stepsFrom(graph(), rest(one), other);
    }

    private static List<List<Integer>> orders(int n) {
        List<List<Integer>> all = new ArrayList<>();
        if (n == 0) {
            all.add(new ArrayList<>());
            return all;
        }
        for (int first = 0; first < n; first++) {
            for (List<Integer> rest : orders(n - 1)) {
                List<Integer> one = new ArrayList<>();
                one.add(first);
                for (int r : rest) {
                    one.add(r >= first ? r + 1 : r);
                }
                all.add(one);
            }
        }
        return all;
    }

    /** The best order with its steps at the end; null without one. */
    private List<Integer> bestTour() {
        List<Integer> best = null;
        for (List<Integer> order : orders(world.spots.size())) {
            int sum = 0;
            for (int i = 0; i < order.size() && sum >= 0; i++) {
                int leg = i == 0 ? fewest(order.get(0)) : stepsFrom(graph(), rest(order.get(i - 1)), order.get(i));
                sum = leg < 0 ? -2 : sum + leg;
            }
            if (sum >= 0 && (best == null || sum < best.get(best.size() - 1))) {
                best = new ArrayList<>(order);
                best.add(sum);
            }
        }
        return best;
    }

    int tour() {
        List<Integer> best = bestTour();
        return best == null ? -2 : best.get(best.size() - 1);
    }

    int stop(int i) {
        if (!isSpot(i)) {
            return -1;
        }
        List<Integer> best = bestTour();
        return best == null ? -2 : best.get(i);
    }

    /** Steps of a carry from a state, which ends in end[0]; boxes are moved. */
    private int carryFrom(State from, List<Integer> boxes, int one, int other, State[] end) {
        if (boxes.get(one) == 0) {
            return -2;
        }
        int low = freeOf(one, boxes);
        int first = graph(boxes, false).steps(from, one, low);
        boxes.set(one, boxes.get(one) - 1);
        int high = freeOf(other, boxes) - 1;
        if (first < 0 || high < 1) {
            return -2;
        }
        int second = graph(boxes, true).steps(new State(one, 0, 0, 0, low), other, high);
        boxes.set(other, boxes.get(other) + 1);
        end[0] = new State(other, 0, 0, 0, high);
        return second < 0 ? -2 : first + second;
    }

    int carry(int from, int to) {
        if (!isColumn(from) || !isColumn(to) || from == to) {
            return -1;
        }
        return holds ? -3 : carryFrom(now, new ArrayList<>(piles), from, to, new State[1]);
    }

    private List<Integer> bestJobs() {
        List<Integer> best = null;
        for (List<Integer> order : orders(world.jobs.size())) {
            int sum = 0;
            List<Integer> boxes = new ArrayList<>(piles);
            State[] at = {now};
            for (int job : order) {
                int leg = carryFrom(at[0], boxes, world.jobs.get(job)[0], world.jobs.get(job)[1], at);
                if (leg < 0) {
                    sum = -2;
                    break;
                }
                sum += leg;
            }
            if (sum >= 0 && (best == null || sum < best.get(best.size() - 1))) {
                best = new ArrayList<>(order);
                best.add(sum);
            }
        }
        return best;
    }

    int jobs() {
        if (holds) {
            return -3;
        }
        List<Integer> best = bestJobs();
        return best == null ? -2 : best.get(best.size() - 1);
    }

    int job(int i) {
        if (i < 0 || i >= world.jobs.size()) {
            return -1;
        }
        if (holds) {
            return -3;
        }
        List<Integer> best = bestJobs();
        return best == null ? -2 : best.get(i);
    }

    int ifPile(int column, int spot) {
        if (!isColumn(column) || !isSpot(spot)) {
            return -1;
        }
        List<Integer> boxes = new ArrayList<>(piles);
        boxes.set(column, boxes.get(column) + 1);
        return stepsFrom(graph(boxes, holds), now, spot);
    }

    int reach(int what) {
        if (what < 0 || what > 2) {
            return -1;
        }
        int all = 0;
        int reached = 0;
        int most = -2;
        for (State s : graph().states) {
            if (s.still()) {
                all++;
                int steps = graph().steps(now, s.column, s.depth);
                reached += steps >= 0 ? 1 : 0;
                most = Math.max(most, steps);
            }
        }
        return what == 0 ? all : what == 1 ? reached : most;
    }

    int safe(int what) {
        if (what < 0 || what > 1) {
            return -1;
        }
        int with = 0;
        int without = 0;
        for (int steps : graph().toAnyRest()) {
            with += steps >= 0 ? 1 : 0;
            without += steps < 0 ? 1 : 0;
        }
        return what == 0 ? with : without;
    }

    private boolean comesHome(State s) {
        int i = graph().at(s);
        return i >= 0 && graph().toAnyRest()[i] >= 0;
    }

    int bears() {
        if (whyNot(now) != 0) {
            return -2;
        }
        int greatest = -2;
        for (int w = 0; w <= 8; w++) {
            boolean all = true;
            for (int force = -w; force <= w; force++) {
                all &= comesHome(after(now, 4, force));
            }
            greatest = all ? w : greatest;
        }
        return greatest;
    }

    int pulses(int depth, int n, int d) {
        if (depth < 1 || depth > 6 || n < 0 || n > 8 || d < -8 || d > 8) {
            return -1;
        }
        int rows = (int) Math.pow(3, n);
        int found = 0;
        for (int row = 0; row < rows; row++) {
            State s = new State(0, 0, 0, 0, depth);
            for (int i = 0, rest = row; i < n; i++, rest /= 3) {
                s = after(s, 3 * (rest % 3) + 1, 0);
            }
            found += s.speed == d && s.sway == 0 && s.last == 0 ? 1 : 0;
        }
        return found;
    }

    int shortest(int depth, int d) {
        if (depth < 1 || depth > 6 || d < -8 || d > 8 || d == 0) {
            return -1;
        }
        for (int n = 0; n <= 8; n++) {
            if (pulses(depth, n, d) > 0) {
                return n;
            }
        }
        return -2;
    }

    int level(int spot) {
        return isSpot(spot) ? graph().cheapest(now, rest(spot), code -> 1, code -> code % 3 == 1, s -> true) : -1;
    }

    int ifWind(int spot, int w) {
        if (!isSpot(spot) || w < -8 || w > 8) {
            return -1;
        }
        return stepsFrom(graph(), after(now, 4, w), spot);
    }

    int nearest() {
        int best = -2;
        for (int i = 0; i < world.spots.size(); i++) {
            if (fewest(i) >= 0 && (best < 0 || fewest(i) < fewest(best))) {
                best = i;
            }
        }
        return best;
    }

    int least(int spot) {
        return isSpot(spot) ? graph().cheapest(now, rest(spot),
                code -> (code / 3 == 1 ? 0 : 1) + (code % 3 == 1 ? 0 : 1), code -> true, s -> true) : -1;
    }

    int steadiest(int spot) {
        if (!isSpot(spot)) {
            return -1;
        }
        for (int w = 0; w <= world.swing(); w++) {
            int most = w;
            if (graph().cheapest(now, rest(spot), code -> 1, code -> true, s -> Math.abs(s.sway) <= most) >= 0) {
                return w;
            }
        }
        return -2;
    }

    int along(int spot, int what) {
        if (!isSpot(spot) || what < 0 || what > 4) {
            return -99;
        }
        List<Integer> way = graph().way(now, toSpot(graph(), spot));
        if (way == null) {
            return -2;
        }
        List<State> behind = new ArrayList<>();
        State s = now;
        for (int code : way) {
            s = after(s, code, 0);
            behind.add(s);
        }
        if (behind.isEmpty()) {
            behind.add(now);
        }
        return switch (what) {
            case 0 -> behind.stream().mapToInt(x -> Math.abs(x.sway)).max().getAsInt();
            case 1 -> behind.stream().mapToInt(x -> Math.abs(x.speed)).max().getAsInt();
            case 2 -> (int) way.stream().filter(code -> code / 3 != 1).count();
            case 3 -> (int) way.stream().filter(code -> code % 3 != 1).count();
            default -> behind.stream().mapToInt(x -> free(x.column + x.sway) - x.depth).min().getAsInt();
        };
    }

    // ---- log, chance, undo, image

    private String letters() {
        StringBuilder letters = new StringBuilder();
        for (int i = Math.max(0, log.size() - 40); i < log.size(); i++) {
            letters.append(log.get(i).letter);
        }
        return letters.toString();
    }

    int log(int k, int what) {
        if (k < 0 || k >= letters().length() || what < 0 || what > 2) {
            return -1;
        }
        Entry e = log.get(log.size() - 1 - k);
        return what == 0 ? e.letter : what == 1 ? (e.lifted ? 1 : 0) : e.tick;
    }

    int again() {
        String s = letters();
        int best = 0;
        for (int m = 1; 2 * m <= s.length(); m++) {
            if (s.substring(s.length() - m).equals(s.substring(s.length() - 2 * m, s.length() - m))) {
                best = m;
            }
        }
        return best;
    }

    int chance(int seed, int n, int what) {
        if (seed < -1 || n < 1 || n > 60 || what < 0 || what > 2) {
            return -1;
        }
        long x = seed == -1 ? world.seed() : seed;
        State s = now;
        int done = 0;
        int most = -1;
        for (int i = 0; i < n && tick + i < 9999; i++) {
            x = (x * 1103515245L + 12345L) % (1L << 31);
            int wind = (int) (x / 65536 % 3) - 1;
            State to = after(s, stillCode(s), wind);
            if (whyNot(to) != 0) {
                break;
            }
            s = to;
            done++;
            most = Math.max(most, Math.abs(s.sway));
        }
        return what == 0 ? done : what == 1 ? (s.still() ? 1 : 0) : most < 0 ? Math.abs(now.sway) : most;
    }

    int undo() {
        if (past.isEmpty()) {
            return -1;
        }
        restore(past.remove(past.size() - 1));
        return past.size();
    }

    int keep() {
        image = snapshot();
        return tick;
    }

    int back() {
        if (image == null) {
            return -1;
        }
        restore(image);
        past.clear();
        return tick;
    }

    int count(int what) {
        return switch (what) {
            case 0 -> world.width();
            case 1 -> world.deep();
            case 2 -> world.top();
            case 3 -> world.swing();
            case 4 -> world.spots.size();
            case 5 -> world.doLines;
            case 6 -> gone;
            case 7 -> tick;
            case 8 -> letters().length();
            case 9 -> past.size();
            case 10 -> tape.size();
            case 11 -> world.jobs.size();
            case 12 -> piles.stream().mapToInt(x -> x).sum();
            default -> -1;
        };
    }
}
