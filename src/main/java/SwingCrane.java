import java.util.NoSuchElementException;

/**
 * A crane whose load swings, all in whole steps: told as a text, moved by call or by orders,
 * and asked for the fewest steps to hang still.
 *
 * <p>A refused call answers NONE, CANNOT or IT_HOLDS and changes nothing.
 */
public final class SwingCrane {
    public static final int NONE = -1;

    private static final int CANNOT = -2;
    private static final int IT_HOLDS = -3;
    private static final int NO_SWAY = -100;
    private static final int NO_WAY_TOLD = -99;

    private static final int MOST_COLUMNS = 16;
    private static final int MOST_DEPTH = 6;
    private static final int MOST_SWING = 4;
    private static final int MOST_SWAYS = 2 * MOST_SWING + 1;
    private static final int MOST_STATES = 38880;
    private static final int MOST_SPOTS = 6;
    private static final int MOST_WINDS = 8;
    private static final int MOST_ORDERS = 16;
    private static final int MOST_JOBS = 3;
    private static final int MOST_BYTES = 700;
    private static final int LAST_TICK = 9999;

    private static final int MOST_SHOWN = 40;
    private static final int MOST_UNDONE = 30;
    /** A tick that is undone gives back what it pushed out of the log, so more is held than is shown. */
    private static final int LOG_ROOM = MOST_SHOWN + MOST_UNDONE;

    private static final int MOST_AHEAD = 60;
    private static final int MOST_FLOW = 40;
    private static final int MOST_PULSES = 8;
    private static final int MOST_FORCE = 8;

    private static final int CODES = 9;
    private static final int NOTHING = 4;
    private static final int EVERY_CODE = 511;
    private static final int LEVEL_CODES = 146;
    private static final int FREE_CODES = 16;
    private static final int SINGLE_CODES = 170;
    private static final int DOUBLE_CODES = 325;

    private static final int LINE_WIDTH = 0;
    private static final int LINE_DEEP = 1;
    private static final int LINE_TOP = 2;
    private static final int LINE_SWING = 3;
    private static final int LINE_BLOCK = 4;
    private static final int LINE_SPOT = 5;
    private static final int LINE_START = 6;
    private static final int LINE_WIND = 7;
    private static final int LINE_DO = 8;
    private static final int LINE_PILE = 9;
    private static final int LINE_JOB = 10;
    private static final int LINE_SEED = 11;
    private static final int LINES = 12;
    private static final int WORDS = 18;
    private static final String LANGUAGE =
            "width deep top swing block spot start wind do pile job seed east west lift lower wait still ";
    private static final int[] MOST_TOLD = {1, 1, 1, 1, 6, 6, 1, 8, 16, 8, 3, 1};
    /** The codes of the orders from east to wait. */
    private static final int[] ORDER_CODES = {7, 1, 3, 5, NOTHING};

    private final Reader reader;
    private final Plan plan;
    private final Moment moment;
    private final Log history;
    private final Past past;
    private final Moment image;
    private final Log imageHistory;
    private boolean imageKept;
    private final Ways ways;
    private final Round round;
    private final Haul haul;
    private final Pose trial;

    public SwingCrane() {
        reader = new Reader();
        plan = new Plan();
        moment = new Moment();
        moment.begin(plan);
        history = new Log();
        past = new Past();
        image = new Moment();
        imageHistory = new Log();
        ways = new Ways(plan, moment);
        round = new Round(plan, ways);
        haul = new Haul(plan, moment, ways);
        trial = new Pose();
        ways.changed();
    }

    public int feed(int a, int b, int c, int d, int e) {
        return reader.takeBytes(a, b, c, d, e);
    }

    public int text(int n) {
        if (n < 0 || n > reader.filled) {
            return CANNOT;
        }
        int lines = reader.readTape(n);
        if (lines == NONE) {
            return NONE;
        }
        plan.set(reader.draft);
        moment.begin(plan);
        history.clear();
        past.clear();
        imageKept = false;
        ways.changed();
        return lines;
    }

    public int fault(int what) {
        if (what == 0) {
            return reader.faultKind;
        }
        return what == 1 ? reader.faultPlace : NONE;
    }

    public int named(int letters) {
        return plan.spotNamed(letters);
    }

    public int step(int a, int u) {
        if (a < -1 || a > 1 || u < -1 || u > 1) {
            return NONE;
        }
        return tickBy(3 * (a + 1) + u + 1, false) ? moment.tick : CANNOT;
    }

    public int flow(int n) {
        if (n < 1 || n > MOST_FLOW) {
            return NONE;
        }
        for (int done = 0; done < n; done++) {
            if (!flowOn()) {
                return done;
            }
        }
        return n;
    }

    public int now(int what) throws IndexOutOfBoundsException, NoSuchElementException {
        if (what < 0) {
            throw new IndexOutOfBoundsException("what is below 0");
        }
        Pose pose = moment.pose;
        switch (what) {
            case 0:
                return pose.column;
            case 1:
                return pose.speed;
            case 2:
                return pose.sway;
            case 3:
                return pose.last;
            case 4:
                return pose.depth;
            case 5:
                return pose.load();
            case 6:
                return pose.isStill() ? 1 : 0;
            case 7:
                return ways.present.whyNot(pose);
            case 8:
                return moment.holds;
            default:
                throw new NoSuchElementException("what is above 8");
        }
    }

    public boolean grab() {
        int column = moment.pose.column;
        if (moment.holds != 0 || !hangsStill() || !plan.hasColumn(column)) {
            return false;
        }
        if (moment.piles[column] < 1 || moment.pose.depth != plan.freeOf(moment.piles, column)) {
            return false;
        }
        past.push(moment);
        moment.piles[column]--;
        moment.holds = 1;
        ways.changed();
        return true;
    }

    public boolean drop() {
        int column = moment.pose.column;
        if (moment.holds == 0 || !hangsStill() || !plan.hasColumn(column)) {
            return false;
        }
        if (moment.pose.depth + 1 != plan.freeOf(moment.piles, column)) {
            return false;
        }
        past.push(moment);
        moment.piles[column]++;
        moment.holds = 0;
        ways.changed();
        return true;
    }

    public int pile(int column) {
        return plan.hasColumn(column) ? moment.piles[column] : NONE;
    }

    public int free(int column) {
        return plan.hasColumn(column) ? plan.freeOf(moment.piles, column) : NONE;
    }

    public int gap(int one, int other) {
        if (!plan.hasColumn(one) || !plan.hasColumn(other)) {
            return NONE;
        }
        int low = Math.min(one, other);
        int high = Math.max(one, other);
        int narrowest = MOST_DEPTH;
        for (int column = low; column <= high; column++) {
            narrowest = Math.min(narrowest, plan.freeOf(moment.piles, column));
        }
        return narrowest;
    }

    public int wind(int tick) {
        return plan.windAt(tick);
    }

    public int why(int code) {
        return code < 0 || code >= CODES ? NONE : whyNot(code);
    }

    public int can() {
        int bits = 0;
        for (int code = 0; code < CODES; code++) {
            if (whyNot(code) == 0) {
                bits |= 1 << code;
            }
        }
        return bits;
    }

    public int sway(int n) {
        if (n < 0 || n > MOST_AHEAD) {
            return NO_SWAY;
        }
        trial.set(moment.pose);
        for (int i = 0; i < n; i++) {
            trial.move(NOTHING, 0);
        }
        return trial.sway;
    }

    public int drift() {
        trial.set(moment.pose);
        for (int i = 0; i < MOST_AHEAD; i++) {
            if (moment.tick + i >= LAST_TICK) {
                return i;
            }
            trial.move(NOTHING, plan.windAt(moment.tick + i));
            if (ways.present.whyNot(trial) != 0) {
                return i;
            }
        }
        return MOST_AHEAD;
    }

    public int fewest(int spot) {
        return plan.hasSpot(spot) ? ways.stepsToSpot(spot) : NONE;
    }

    public int by(int spot, int k) {
        if (!plan.hasSpot(spot) || k < 0) {
            return NONE;
        }
        int steps = ways.stepsToSpot(spot);
        return k >= steps ? CANNOT : ways.codeOnWay(spot, steps - 1 - k);
    }

    public int halt() {
        return ways.stepsHome(moment.pose);
    }

    public int rests(int what) {
        if (what < 0 || what > 1) {
            return NONE;
        }
        int steps = ways.stepsHome(moment.pose);
        if (steps < 0) {
            return CANNOT;
        }
        trial.set(moment.pose);
        for (int i = 0; i < steps; i++) {
            trial.move(ways.codeHome(trial), 0);
        }
        return what == 0 ? trial.column : trial.depth;
    }

    public int between(int one, int other) {
        if (!plan.hasSpot(one) || !plan.hasSpot(other)) {
            return NONE;
        }
        return one == other ? 0 : ways.legOf(one, other);
    }

    public int tour() {
        return round.fewestInAll();
    }

    public int stop(int i) {
        if (!plan.hasSpot(i)) {
            return NONE;
        }
        return round.fewestInAll() < 0 ? CANNOT : round.best[i];
    }

    public int carry(int from, int to) {
        if (!plan.hasColumn(from) || !plan.hasColumn(to) || from == to) {
            return NONE;
        }
        return moment.holds != 0 ? IT_HOLDS : haul.fromNow(from, to);
    }

    public int jobs() {
        return moment.holds != 0 ? IT_HOLDS : haul.fewestInAll();
    }

    public int job(int i) {
        if (i < 0 || i >= plan.told[LINE_JOB] || i >= MOST_JOBS) {
            return NONE;
        }
        if (moment.holds != 0) {
            return IT_HOLDS;
        }
        return haul.fewestInAll() < 0 ? CANNOT : haul.best[i];
    }

    public int ifPile(int column, int spot) {
        if (!plan.hasColumn(column) || !plan.hasSpot(spot)) {
            return NONE;
        }
        return ways.stepsUnderPile(column, spot);
    }

    public int reach(int what) {
        if (what < 0 || what > 2) {
            return NONE;
        }
        int found = 0;
        int farthest = CANNOT;
        for (int column = 0; column < plan.width; column++) {
            for (int depth = 1; depth <= plan.deep; depth++) {
                int steps = what == 0 ? ways.stepsAtRest(column, depth) : ways.stepsToRest(column, depth);
                if (steps >= 0) {
                    found++;
                    farthest = Math.max(farthest, steps);
                }
            }
        }
        return what == 2 ? farthest : found;
    }

    public int safe(int what) {
        if (what < 0 || what > 1) {
            return NONE;
        }
        int homing = ways.countHoming();
        return what == 0 ? homing : ways.present.countStates() - homing;
    }

    public int bears() {
        if (ways.present.whyNot(moment.pose) != 0) {
            return CANNOT;
        }
        for (int w = 0; w <= MOST_FORCE; w++) {
            if (!bearsWind(w) || !bearsWind(-w)) {
                return w == 0 ? CANNOT : w - 1;
            }
        }
        return MOST_FORCE;
    }

    public int pulses(int depth, int n, int d) {
        if (n < 0 || n > MOST_PULSES || !isPulse(depth, d)) {
            return NONE;
        }
        return countPulses(n, turnAt(depth), d, 0, 0);
    }

    public int shortest(int depth, int d) {
        if (d == 0 || !isPulse(depth, d)) {
            return NONE;
        }
        for (int n = 1; n <= MOST_PULSES; n++) {
            if (countPulses(n, turnAt(depth), d, 0, 0) > 0) {
                return n;
            }
        }
        return CANNOT;
    }

    public int level(int spot) {
        return plan.hasSpot(spot) ? ways.stepsBySome(spot, LEVEL_CODES, MOST_SWING) : NONE;
    }

    public int ifWind(int spot, int w) {
        if (!plan.hasSpot(spot) || w < -MOST_FORCE || w > MOST_FORCE) {
            return NONE;
        }
        return ways.stepsBehindWind(spot, w);
    }

    public int nearest() {
        int nearest = CANNOT;
        int fewest = 0;
        for (int spot = 0; spot < plan.told[LINE_SPOT]; spot++) {
            int steps = ways.stepsToSpot(spot);
            if (steps >= 0 && (nearest < 0 || steps < fewest)) {
                nearest = spot;
                fewest = steps;
            }
        }
        return nearest;
    }

    public int least(int spot) {
        return plan.hasSpot(spot) ? ways.pushesTo(spot) : NONE;
    }

    public int steadiest(int spot) {
        if (!plan.hasSpot(spot)) {
            return NONE;
        }
        int steps = ways.stepsToSpot(spot);
        if (steps <= 0) {
            return steps;
        }
        for (int most = 0; most < plan.swing; most++) {
            if (ways.stepsBySome(spot, EVERY_CODE, most) >= 0) {
                return most;
            }
        }
        return plan.swing;
    }

    public int along(int spot, int what) {
        if (!plan.hasSpot(spot) || what < 0 || what > 4) {
            return NO_WAY_TOLD;
        }
        return ways.stepsToSpot(spot) < 0 ? CANNOT : ways.onWay(spot, what);
    }

    public int log(int k, int what) {
        return k < 0 || k >= history.shown() || what < 0 || what > 2 ? NONE : history.tell(k, what);
    }

    public int again() {
        for (int m = history.shown() / 2; m > 0; m--) {
            if (history.repeats(m)) {
                return m;
            }
        }
        return 0;
    }

    public int chance(int seed, int n, int what) {
        if (seed < -1 || n < 1 || n > MOST_AHEAD || what < 0 || what > 2) {
            return NONE;
        }
        int drawn = seed < 0 ? plan.seed : seed;
        int greatest = Math.abs(moment.pose.sway);
        int done = 0;
        trial.set(moment.pose);
        for (int i = 0; i < n && i == done && moment.tick + i < LAST_TICK; i++) {
            drawn = (drawn * 1103515245 + 12345) & 0x7FFFFFFF;
            if (chanceTick((drawn >> 16) % 3 - 1)) {
                done++;
                int size = Math.abs(trial.sway);
                greatest = done == 1 ? size : Math.max(greatest, size);
            }
        }
        if (what == 0) {
            return done;
        }
        return what == 2 ? greatest : trial.isStill() ? 1 : 0;
    }

    public int undo() {
        int tick = moment.tick;
        if (!past.pop(moment)) {
            return NONE;
        }
        if (moment.tick != tick) {
            history.forget();
            ways.moved();
        } else {
            ways.changed();
        }
        return past.size;
    }

    public int keep() {
        image.set(moment);
        imageHistory.set(history);
        imageKept = true;
        return moment.tick;
    }

    public int back() {
        if (!imageKept) {
            return NONE;
        }
        moment.set(image);
        history.set(imageHistory);
        past.clear();
        ways.changed();
        return moment.tick;
    }

    public int count(int what) {
        switch (what) {
            case 0:
                return plan.width;
            case 1:
                return plan.deep;
            case 2:
                return plan.top;
            case 3:
                return plan.swing;
            case 4:
                return plan.told[LINE_SPOT];
            case 5:
                return plan.told[LINE_DO];
            case 6:
                return moment.gone;
            case 7:
                return moment.tick;
            case 8:
                return history.shown();
            case 9:
                return past.size;
            case 10:
                return reader.filled;
            case 11:
                return plan.told[LINE_JOB];
            case 12:
                return moment.countBoxes();
            default:
                return NONE;
        }
    }

    private boolean hangsStill() {
        return moment.pose.isStill() && ways.present.whyNot(moment.pose) == 0;
    }

    private int whyNot(int code) {
        trial.set(moment.pose);
        trial.move(code, 0);
        return ways.present.whyNot(trial);
    }

    private boolean tickBy(int code, boolean byFlow) {
        if (moment.tick >= LAST_TICK) {
            return false;
        }
        trial.set(moment.pose);
        trial.move(code, plan.windAt(moment.tick));
        if (ways.present.whyNot(trial) != 0) {
            return false;
        }
        past.push(moment);
        history.add(code, moment.tick);
        moment.pose.set(trial);
        moment.tick++;
        if (byFlow) {
            moment.gone++;
        }
        ways.moved();
        return true;
    }

    private boolean flowOn() {
        int word = plan.orderAt(moment.gone);
        if (word < LINES) {
            return false;
        }
        int order = word - LINES;
        int code = order < ORDER_CODES.length ? ORDER_CODES[order] : ways.codeHome(moment.pose);
        return tickBy(code, true);
    }

    private boolean bearsWind(int force) {
        trial.set(moment.pose);
        trial.move(NOTHING, force);
        return ways.stepsHome(trial) >= 0;
    }

    /** One tick by chance of the trial pose; it stays where it is, if the tick can't be. */
    private boolean chanceTick(int force) {
        ways.ahead.set(trial);
        ways.ahead.move(ways.codeHome(trial), force);
        if (ways.present.whyNot(ways.ahead) != 0) {
            return false;
        }
        trial.set(ways.ahead);
        return true;
    }

    private static boolean isPulse(int depth, int d) {
        return depth >= 1 && depth <= MOST_DEPTH && d >= -MOST_PULSES && d <= MOST_PULSES;
    }

    private static int turnAt(int depth) {
        if (depth <= 2) {
            return -1;
        }
        return depth <= 4 ? 0 : 1;
    }

    /** Rows of so many pushes that add what is missing of the speed and end without sway. */
    private static int countPulses(int left, int turn, int missing, int sway, int last) {
        if (left <= 0) {
            return missing == 0 && sway == 0 && last == 0 ? 1 : 0;
        }
        if (Math.abs(missing) > left) {
            return 0;
        }
        int found = 0;
        for (int push = -1; push <= 1; push++) {
            found += countPulses(left - 1, turn, missing - push, turn * sway - last - push, sway);
        }
        return found;
    }

    /** A state of trolley, rope and load, whether it stands or not. */
    private static final class Pose {
        int column;
        int speed;
        int sway;
        int last;
        int depth;

        void set(Pose other) {
            column = other.column;
            speed = other.speed;
            sway = other.sway;
            last = other.last;
            depth = other.depth;
        }

        void hang(int atColumn, int atDepth) {
            column = atColumn;
            depth = atDepth;
            speed = 0;
            sway = 0;
            last = 0;
        }

        void move(int code, int force) {
            int push = code / 3 - 1;
            speed += push;
            column += speed;
            depth += code % 3 - 1;
            int next = force - push - last;
            if (depth <= 2) {
                next -= sway;
            } else if (depth > 4) {
                next += sway;
            }
            last = sway;
            sway = next;
        }

        /** Goes to the one pose from which the step of this code leads here without wind. */
        void moveBack(int code) {
            int push = code / 3 - 1;
            int before = -push - sway;
            if (depth <= 2) {
                before -= last;
            } else if (depth > 4) {
                before += last;
            }
            depth -= code % 3 - 1;
            column -= speed;
            speed -= push;
            sway = last;
            last = before;
        }

        boolean isStill() {
            return speed == 0 && sway == 0 && last == 0;
        }

        int load() {
            return column + sway;
        }

        /** All five in one number, for a standing pose. */
        int packed() {
            return column << 14 | (speed + 2) << 11 | depth << 8 | (sway + MOST_SWING) << 4 | last + MOST_SWING;
        }

        void unpack(int number) {
            column = number >> 14 & 15;
            speed = (number >> 11 & 7) - 2;
            depth = number >> 8 & 7;
            sway = (number >> 4 & 15) - MOST_SWING;
            last = (number & 15) - MOST_SWING;
        }
    }

    /** What changes by ticks, grab and drop. */
    private static final class Moment {
        final Pose pose;
        final int[] piles;
        int holds;
        int tick;
        int gone;

        Moment() {
            pose = new Pose();
            piles = new int[MOST_COLUMNS];
        }

        void set(Moment other) {
            pose.set(other.pose);
            copyRow(other.piles, piles);
            holds = other.holds;
            tick = other.tick;
            gone = other.gone;
        }

        void begin(Plan plan) {
            pose.hang(plan.startColumn, plan.startDepth);
            copyRow(plan.piles, piles);
            holds = 0;
            tick = 0;
            gone = 0;
        }

        int countBoxes() {
            int boxes = 0;
            for (int i = 0; i < piles.length; i++) {
                boxes += piles[i];
            }
            return boxes;
        }
    }

    private static void copyRow(int[] from, int[] to) {
        for (int i = 0; i < from.length && i < to.length; i++) {
            to[i] = from[i];
        }
    }

    /** What a text tells. */
    private static final class Plan {
        int width;
        int deep;
        int top;
        int swing;
        int seed;
        int startColumn;
        int startDepth;
        final int[] blockDepth;
        final int[] piles;
        final int[] spotName;
        final int[] spotColumn;
        final int[] spotDepth;
        final int[] windTick;
        final int[] windForce;
        final int[] orderWord;
        final int[] orderTimes;
        final int[] jobFrom;
        final int[] jobTo;
        /** How many lines of each kind. */
        final int[] told;

        Plan() {
            blockDepth = new int[MOST_COLUMNS];
            piles = new int[MOST_COLUMNS];
            spotName = new int[MOST_SPOTS];
            spotColumn = new int[MOST_SPOTS];
            spotDepth = new int[MOST_SPOTS];
            windTick = new int[MOST_WINDS];
            windForce = new int[MOST_WINDS];
            orderWord = new int[MOST_ORDERS];
            orderTimes = new int[MOST_ORDERS];
            jobFrom = new int[MOST_JOBS];
            jobTo = new int[MOST_JOBS];
            told = new int[LINES];
            clear();
        }

        void clear() {
            width = MOST_COLUMNS;
            deep = MOST_DEPTH;
            top = 2;
            swing = MOST_SWING;
            seed = 0;
            startColumn = 0;
            startDepth = 1;
            for (int i = 0; i < MOST_COLUMNS; i++) {
                blockDepth[i] = MOST_DEPTH;
                piles[i] = 0;
            }
            for (int i = 0; i < LINES; i++) {
                told[i] = 0;
            }
        }

        void set(Plan other) {
            width = other.width;
            deep = other.deep;
            top = other.top;
            swing = other.swing;
            seed = other.seed;
            startColumn = other.startColumn;
            startDepth = other.startDepth;
            copyRow(other.blockDepth, blockDepth);
            copyRow(other.piles, piles);
            copyRow(other.spotName, spotName);
            copyRow(other.spotColumn, spotColumn);
            copyRow(other.spotDepth, spotDepth);
            copyRow(other.windTick, windTick);
            copyRow(other.windForce, windForce);
            copyRow(other.orderWord, orderWord);
            copyRow(other.orderTimes, orderTimes);
            copyRow(other.jobFrom, jobFrom);
            copyRow(other.jobTo, jobTo);
            copyRow(other.told, told);
        }

        boolean hasColumn(int column) {
            return column >= 0 && column < width && column < MOST_COLUMNS;
        }

        boolean hasSpot(int spot) {
            return spot >= 0 && spot < told[LINE_SPOT] && spot < MOST_SPOTS;
        }

        /** How deep a column is free above these piles. */
        int freeOf(int[] boxes, int column) {
            if (!hasColumn(column) || column >= boxes.length) {
                return 0;
            }
            return Math.max(0, Math.min(deep, blockDepth[column]) - boxes[column]);
        }

        int spotNamed(int letters) {
            for (int i = 0; i < told[LINE_SPOT] && i < MOST_SPOTS; i++) {
                if (spotName[i] == letters) {
                    return i;
                }
            }
            return NONE;
        }

        int windAt(int tick) {
            for (int i = 0; i < told[LINE_WIND] && i < MOST_WINDS; i++) {
                if (windTick[i] == tick) {
                    return windForce[i];
                }
            }
            return 0;
        }

        /** The word of the order behind so many ticks of the flow; NONE behind its end. */
        int orderAt(int gone) {
            int behind = 0;
            for (int i = 0; i < told[LINE_DO] && i < MOST_ORDERS; i++) {
                behind += orderTimes[i];
                if (gone < behind) {
                    return orderWord[i];
                }
            }
            return NONE;
        }
    }

    /** The tape, and how a text on it is read into a draft of the plan. */
    private static final class Reader {
        private static final int END = 0;
        private static final int WORD = 1;
        private static final int NUMBER = 2;
        private static final int SIGNED = 3;
        private static final int SEMICOLON = 4;
        private static final int NO_TOKEN = 5;
        private static final int LONGEST_WORD = 6;
        /** Above every number that a text may tell: more digits change nothing. */
        private static final int TOO_GREAT = 1000000;
        private static final int LAST_WIND = 999;
        private static final int STRONGEST_WIND = 4;
        private static final int MOST_TIMES = 30;
        private static final int LAST_SEED = 99999;

        final byte[] tape;
        int filled;
        final Plan draft;
        int faultKind;
        int faultPlace;
        private final int[] words;
        private int length;
        private int place;
        private int behind;
        private int kind;
        private int value;

        Reader() {
            tape = new byte[MOST_BYTES];
            draft = new Plan();
            words = new int[WORDS];
            faultPlace = NONE;
            packLanguage(words);
        }

        private static void packLanguage(int[] words) {
            int word = 0;
            int letters = 0;
            int packed = 0;
            for (int i = 0; i < LANGUAGE.length() && word < words.length; i++) {
                char sign = LANGUAGE.charAt(i);
                if (sign == ' ') {
                    words[word] = packed;
                    word++;
                    letters = 0;
                    packed = 0;
                } else {
                    packed |= letterBits(sign, letters);
                    letters++;
                }
            }
        }

        /** Five bits a letter, the first of six highest. */
        private static int letterBits(int sign, int ahead) {
            return ahead < LONGEST_WORD ? (sign - 'a' + 1) << 5 * (LONGEST_WORD - 1 - ahead) : 0;
        }

        int takeBytes(int a, int b, int c, int d, int e) {
            if (filled + 20 > tape.length) {
                return NONE;
            }
            takeNumber(a);
            takeNumber(b);
            takeNumber(c);
            takeNumber(d);
            takeNumber(e);
            return filled;
        }

        private void takeNumber(int number) {
            for (int shift = 24; shift >= 0 && filled >= 0 && filled < tape.length; shift -= 8) {
                tape[filled] = (byte) (number >> shift);
                filled++;
            }
        }

        /** How many lines the first n bytes are; NONE with a fault. The tape is empty then. */
        int readTape(int n) {
            draft.clear();
            faultKind = 0;
            faultPlace = NONE;
            length = n;
            behind = 0;
            filled = 0;
            int lines = 0;
            nextToken();
            while (lines < MOST_BYTES && kind != END && faultKind == 0) {
                int line = wordNumber();
                if (mayStand(line)) {
                    readLine(line, draft.told[line]);
                    needSemicolon();
                    draft.told[line]++;
                }
                lines++;
                nextToken();
            }
            return faultKind == 0 ? lines : NONE;
        }

        private void refuse(int why) {
            if (faultKind == 0) {
                faultKind = why;
                faultPlace = place;
            }
        }

        private int signAt(int i) {
            return i >= 0 && i < length && i < tape.length ? tape[i] : NONE;
        }

        private static boolean isLetter(int sign) {
            return sign >= 'a' && sign <= 'z';
        }

        private static boolean isDigit(int sign) {
            return sign >= '0' && sign <= '9';
        }

        private static boolean isBlank(int sign) {
            return sign == 10 || sign == 32;
        }

        private void nextToken() {
            int i = behind;
            while (i < length && isBlank(signAt(i))) {
                i++;
            }
            place = i;
            behind = i + 1;
            value = 0;
            int sign = signAt(i);
            if (i >= length) {
                kind = END;
                behind = i;
            } else if (isLetter(sign)) {
                takeWord();
            } else if (isDigit(sign)) {
                kind = NUMBER;
                takeDigits(i);
            } else if (sign == '-' && isDigit(signAt(i + 1))) {
                kind = SIGNED;
                takeDigits(i + 1);
                value = -value;
            } else {
                kind = sign == ';' ? SEMICOLON : NO_TOKEN;
            }
        }

        private void takeWord() {
            int i = place;
            while (i < length && isLetter(signAt(i))) {
                value |= letterBits(signAt(i), i - place);
                i++;
            }
            kind = i - place > LONGEST_WORD ? NO_TOKEN : WORD;
            behind = i;
        }

        private void takeDigits(int first) {
            int i = first;
            while (i < length && isDigit(signAt(i))) {
                value = Math.min(TOO_GREAT, 10 * value + signAt(i) - '0');
                i++;
            }
            behind = i;
        }

        /** The number of a word of the language; NONE for every other token. */
        private int wordNumber() {
            for (int i = 0; kind == WORD && i < words.length; i++) {
                if (words[i] == value) {
                    return i;
                }
            }
            return NONE;
        }

        /** Whether the word can begin a line here; else it is refused. */
        private boolean mayStand(int line) {
            if (line < 0 || line >= LINES || line <= LINE_SWING && isBegun()) {
                refuse(1);
            } else if (draft.told[line] >= MOST_TOLD[line]) {
                refuse(MOST_TOLD[line] == 1 ? 3 : 2);
            }
            return faultKind == 0;
        }

        /** Whether a line was told ahead of which width, deep, top and swing must stand. */
        private boolean isBegun() {
            int lines = 0;
            for (int line = LINE_BLOCK; line < LINE_SEED; line++) {
                lines += draft.told[line];
            }
            return lines > 0;
        }

        private void readLine(int line, int ahead) {
            switch (line) {
                case LINE_WIDTH:
                    draft.width = number(4, MOST_COLUMNS);
                    break;
                case LINE_DEEP:
                    draft.deep = number(2, MOST_DEPTH);
                    break;
                case LINE_TOP:
                    draft.top = number(1, 2);
                    break;
                case LINE_SWING:
                    draft.swing = number(1, MOST_SWING);
                    break;
                case LINE_BLOCK:
                    readBlock();
                    break;
                case LINE_SPOT:
                    readSpot(ahead);
                    break;
                case LINE_START:
                    draft.startColumn = number(0, draft.width - 1);
                    draft.startDepth = number(1, draft.deep);
                    break;
                case LINE_WIND:
                    readWind(ahead);
                    break;
                case LINE_DO:
                    readOrder(ahead);
                    break;
                case LINE_PILE:
                    readPile();
                    break;
                case LINE_JOB:
                    readJob(ahead);
                    break;
                default:
                    draft.seed = number(0, LAST_SEED);
                    break;
            }
        }

        /** The next token, a number from low to high; low with a fault. */
        private int number(int low, int high) {
            if (faultKind != 0) {
                return low;
            }
            nextToken();
            if (kind != NUMBER) {
                refuse(1);
                return low;
            }
            return within(low, high);
        }

        private int within(int low, int high) {
            if (value < low || value > high) {
                refuse(2);
                return low;
            }
            return value;
        }

        private void needSemicolon() {
            if (faultKind == 0) {
                nextToken();
                if (kind != SEMICOLON) {
                    refuse(1);
                }
            }
        }

        private void readBlock() {
            int first = number(0, draft.width - 1);
            int last = number(first, draft.width - 1);
            int depth = number(0, draft.deep);
            for (int column = first; column <= last && column < draft.blockDepth.length; column++) {
                if (column >= 0 && depth < draft.blockDepth[column]) {
                    draft.blockDepth[column] = depth;
                }
            }
        }

        private void readSpot(int ahead) {
            nextToken();
            if (kind != WORD || wordNumber() != NONE) {
                refuse(1);
            } else if (draft.spotNamed(value) != NONE) {
                refuse(3);
            }
            int name = value;
            int column = number(0, draft.width - 1);
            int depth = number(1, draft.deep);
            if (ahead >= 0 && ahead < MOST_SPOTS) {
                draft.spotName[ahead] = name;
                draft.spotColumn[ahead] = column;
                draft.spotDepth[ahead] = depth;
            }
        }

        private void readWind(int ahead) {
            int low = ahead > 0 && ahead <= MOST_WINDS ? draft.windTick[ahead - 1] + 1 : 0;
            int tick = number(low, LAST_WIND);
            int force = signedNumber();
            if (ahead >= 0 && ahead < MOST_WINDS) {
                draft.windTick[ahead] = tick;
                draft.windForce[ahead] = force;
            }
        }

        private int signedNumber() {
            if (faultKind != 0) {
                return 0;
            }
            nextToken();
            if (kind != NUMBER && kind != SIGNED) {
                refuse(1);
                return 0;
            }
            return within(-STRONGEST_WIND, STRONGEST_WIND);
        }

        private void readOrder(int ahead) {
            nextToken();
            int word = wordNumber();
            if (word < LINES) {
                refuse(1);
            }
            int times = number(1, MOST_TIMES);
            if (ahead >= 0 && ahead < MOST_ORDERS) {
                draft.orderWord[ahead] = word;
                draft.orderTimes[ahead] = times;
            }
        }

        private void readPile() {
            int column = number(0, draft.width - 1);
            if (column < 0 || column >= draft.piles.length) {
                return;
            }
            if (draft.piles[column] > 0) {
                refuse(3);
            }
            draft.piles[column] = number(1, draft.deep);
        }

        private void readJob(int ahead) {
            int from = number(0, draft.width - 1);
            int to = number(0, draft.width - 1);
            if (to == from) {
                refuse(2);
            }
            if (ahead >= 0 && ahead < MOST_JOBS) {
                draft.jobFrom[ahead] = from;
                draft.jobTo[ahead] = to;
            }
        }
    }

    /** The latest ticks, in a ring: tick, whether it was lifted, letter. */
    private static final class Log {
        private final int[] ring;
        private int end;
        private int size;

        Log() {
            ring = new int[LOG_ROOM];
        }

        void clear() {
            end = 0;
            size = 0;
        }

        void set(Log other) {
            copyRow(other.ring, ring);
            end = other.end;
            size = other.size;
        }

        int shown() {
            return Math.min(MOST_SHOWN, size);
        }

        void add(int code, int tick) {
            if (end < 0 || end >= ring.length) {
                return;
            }
            int lifted = code % 3 == 0 ? 1 : 0;
            ring[end] = tick << 9 | lifted << 8 | letterOf(code);
            end = end + 1 < ring.length ? end + 1 : 0;
            size = Math.min(ring.length, size + 1);
        }

        private static int letterOf(int code) {
            int letter = code < 3 ? 'w' : code < 6 ? 'n' : 'e';
            return code % 3 == 2 ? letter - 32 : letter;
        }

        void forget() {
            if (size > 0) {
                end = end > 0 ? end - 1 : ring.length - 1;
                size--;
            }
        }

        private int latest(int k) {
            int i = end - 1 - k;
            if (i < 0) {
                i += ring.length;
            }
            return i >= 0 && i < ring.length ? ring[i] : 0;
        }

        int tell(int k, int what) {
            int entry = latest(k);
            if (what == 0) {
                return entry & 255;
            }
            return what == 1 ? entry >> 8 & 1 : entry >> 9;
        }

        /** Whether the latest m letters are those of the m ahead of them. */
        boolean repeats(int m) {
            for (int k = 0; k < m; k++) {
                if ((latest(k) & 255) != (latest(k + m) & 255)) {
                    return false;
                }
            }
            return true;
        }
    }

    /** The moments that can be gone back to, in a ring. */
    private static final class Past {
        private final Moment[] ring;
        private int end;
        int size;

        Past() {
            ring = new Moment[MOST_UNDONE];
            for (int i = 0; i < ring.length; i++) {
                ring[i] = new Moment();
            }
        }

        void clear() {
            end = 0;
            size = 0;
        }

        void push(Moment moment) {
            if (end < 0 || end >= ring.length) {
                return;
            }
            ring[end].set(moment);
            end = end + 1 < ring.length ? end + 1 : 0;
            size = Math.min(ring.length, size + 1);
        }

        boolean pop(Moment moment) {
            if (size < 1) {
                return false;
            }
            end = end > 0 ? end - 1 : ring.length - 1;
            size--;
            if (end >= 0 && end < ring.length) {
                moment.set(ring[end]);
            }
            return true;
        }
    }

    /** Which states stand, by what is free and whether the crane holds; each has a number. */
    private static final class Space {
        int width;
        int deep;
        int top;
        int swing;
        int size;
        private int holds;
        private int speeds;
        private int sways;
        private int standing;
        private final int[] free;
        private final boolean[] stands;

        Space() {
            free = new int[MOST_COLUMNS];
            stands = new boolean[MOST_COLUMNS * MOST_DEPTH * MOST_SWAYS];
        }

        void lay(Plan plan, int[] piles, int nowHolds) {
            width = plan.width;
            deep = plan.deep;
            top = plan.top;
            swing = plan.swing;
            holds = nowHolds;
            speeds = 2 * top + 1;
            sways = 2 * swing + 1;
            size = width * deep * sways * speeds * sways;
            for (int column = 0; column < free.length; column++) {
                free[column] = plan.freeOf(piles, column);
            }
            standing = 0;
            for (int cell = 0; cell < stands.length; cell++) {
                stands[cell] = false;
            }
            for (int column = 0; column < width; column++) {
                for (int depth = 1; depth <= deep; depth++) {
                    layRopes(column, depth);
                }
            }
        }

        private void layRopes(int column, int depth) {
            for (int sway = -swing; sway <= swing; sway++) {
                int cell = (column * deep + depth - 1) * sways + sway + swing;
                boolean there = column + sway >= 0 && column + sway < width;
                if (there && cell >= 0 && cell < stands.length && isClear(column, depth, sway)) {
                    stands[cell] = true;
                    standing++;
                }
            }
        }

        int freeAt(int column) {
            return column >= 0 && column < free.length ? free[column] : 0;
        }

        /** The rope's own column needs nothing where it sways, so it is left out. */
        private boolean isClear(int column, int depth, int sway) {
            int away = sway < 0 ? -sway : sway;
            int way = sway < 0 ? -1 : 1;
            for (int k = 1; k < away; k++) {
                if ((depth * k + away - 1) / away > freeAt(column + way * k)) {
                    return false;
                }
            }
            return depth + holds <= freeAt(column + sway);
        }

        /** The first reason why it doesn't stand; 0 if it does. */
        int whyNot(Pose pose) {
            if (pose.column < 0 || pose.column >= width) {
                return 1;
            }
            if (pose.speed < -top || pose.speed > top) {
                return 2;
            }
            if (pose.depth < 1 || pose.depth > deep) {
                return 3;
            }
            if (pose.sway < -swing || pose.sway > swing) {
                return 4;
            }
            int load = pose.load();
            if (load < 0 || load >= width) {
                return 5;
            }
            return isClear(pose.column, pose.depth, pose.sway) ? 0 : 6;
        }

        /** The number of a state that stands; NONE of every other one. */
        int numberOf(Pose pose) {
            if (pose.column < 0 || pose.column >= width || pose.depth < 1 || pose.depth > deep) {
                return NONE;
            }
            int speed = pose.speed + top;
            int sway = pose.sway + swing;
            int last = pose.last + swing;
            if (speed < 0 || speed >= speeds || sway < 0 || sway >= sways || last < 0 || last >= sways) {
                return NONE;
            }
            int cell = (pose.column * deep + pose.depth - 1) * sways + sway;
            if (cell < 0 || cell >= stands.length || !stands[cell]) {
                return NONE;
            }
            return (cell * speeds + speed) * sways + last;
        }

        int countStates() {
            return standing * speeds * sways;
        }
    }

    /** A search by breadth, forward or backward, which stops at a goal and can go on from there. */
    private static final class Search {
        private static final int SEED_MARK = 10;

        /** By the number of a state: steps times 16, and the code that led there and 1; 0: not met. */
        private int[] mark;
        private int[] queue;
        private int head;
        private int tail;
        private Space space;
        private boolean backward;
        private int codes;
        private int most;
        private final Pose from;
        private final Pose near;

        Search(Space inSpace) {
            mark = new int[0];
            queue = new int[0];
            space = inSpace;
            from = new Pose();
            near = new Pose();
        }

        /** Rows are kept and grow at least twofold, so that a run makes few of them. */
        void begin(Space inSpace, boolean goesBack, int byCodes, int mostSway) {
            space = inSpace;
            backward = goesBack;
            codes = byCodes;
            most = mostSway;
            head = 0;
            tail = 0;
            int size = inSpace.size;
            if (size > mark.length && size <= MOST_STATES) {
                int length = Math.max(size, Math.min(MOST_STATES, 2 * mark.length));
                mark = new int[length];
                queue = new int[length];
            }
            for (int i = 0; i < size && i < mark.length; i++) {
                mark[i] = 0;
            }
        }

        /** A state from which it begins, if it stands. */
        void seed(Pose pose) {
            int number = space.numberOf(pose);
            if (number >= 0 && number < mark.length && tail >= 0 && tail < queue.length) {
                mark[number] = SEED_MARK;
                queue[tail] = pose.packed();
                tail++;
            }
        }

        /** Steps between the seeds and this state, as far as the search has come; CANNOT if not met. */
        int stepsMet(int number) {
            if (number < 0 || number >= mark.length || mark[number] == 0) {
                return CANNOT;
            }
            return mark[number] >> 4;
        }

        /** The code by which this state was met; NONE of a seed or a state that was not. */
        int codeMet(int number) {
            if (number < 0 || number >= mark.length || mark[number] == 0) {
                return NONE;
            }
            int code = (mark[number] & 15) - 1;
            return code < CODES ? code : NONE;
        }

        int stepsTo(int goal) {
            if (goal < 0 || goal >= mark.length) {
                return CANNOT;
            }
            while (head < tail && head < queue.length && mark[goal] == 0) {
                expand(head, codes, 1);
                head++;
            }
            return stepsMet(goal);
        }

        /** Goes to the end: how many states were met. */
        int countMet() {
            while (head < tail && head < queue.length) {
                expand(head, codes, 1);
                head++;
            }
            return tail;
        }

        private void expand(int index, int byCodes, int cost) {
            if (index < 0 || index >= queue.length) {
                return;
            }
            from.unpack(queue[index]);
            int steps = stepsMet(space.numberOf(from)) + cost;
            for (int code = 0; code < CODES; code++) {
                if ((byCodes >> code & 1) != 0) {
                    near.set(from);
                    if (backward) {
                        near.moveBack(code);
                    } else {
                        near.move(code, 0);
                    }
                    int number = near.sway > most || near.sway < -most ? NONE : space.numberOf(near);
                    if (number >= 0 && number < mark.length && mark[number] == 0
                            && tail >= 0 && tail < queue.length) {
                        mark[number] = steps << 4 | code + 1;
                        queue[tail] = near.packed();
                        tail++;
                    }
                }
            }
        }

        /** The fewest pushes and hoists to the goal: a level for each cost, each fed by the two ahead. */
        int costTo(int goal) {
            if (goal < 0 || goal >= mark.length) {
                return CANNOT;
            }
            int before = 0;
            int start = 0;
            int end = 0;
            spread(0);
            for (int turns = 0; turns < 2 * MOST_STATES && mark[goal] == 0; turns++) {
                before = start;
                start = end;
                end = tail;
                if (before == end) {
                    return CANNOT;
                }
                spreadLevels(before, start, end);
            }
            return stepsMet(goal);
        }

        private void spreadLevels(int before, int start, int end) {
            for (int i = before; i < start && i < queue.length; i++) {
                expand(i, DOUBLE_CODES, 2);
            }
            for (int i = start; i < end && i < queue.length; i++) {
                expand(i, SINGLE_CODES, 1);
            }
            spread(end);
        }

        /** What costs nothing belongs to the level itself. */
        private void spread(int first) {
            for (int i = first; i < tail && i < queue.length; i++) {
                expand(i, FREE_CODES, 0);
            }
        }
    }

    /** Steps from now, from spots and to any rest, as far as they were asked for. */
    private static final class Ways {
        private final Plan plan;
        private final Moment moment;
        final Space present;
        /** With other piles, for supposedSteps. */
        final Space supposed;
        private final Search here;
        private final Search home;
        private final Search aside;
        private final int[] legs;
        private int legsKnown;
        private boolean hereBegun;
        private boolean homeBegun;
        private final Pose goal;
        final Pose ahead;
        /** Another one whenever now or what stands may have changed. */
        int version;

        Ways(Plan ofPlan, Moment ofMoment) {
            plan = ofPlan;
            moment = ofMoment;
            present = new Space();
            supposed = new Space();
            here = new Search(present);
            home = new Search(present);
            aside = new Search(present);
            legs = new int[MOST_SPOTS * MOST_SPOTS];
            goal = new Pose();
            ahead = new Pose();
        }

        void moved() {
            hereBegun = false;
            version++;
        }

        void changed() {
            present.lay(plan, moment.piles, moment.holds);
            hereBegun = false;
            homeBegun = false;
            legsKnown = 0;
            version++;
        }

        /** Leaves the rest in goal, from where ways are walked back. */
        private int restNumber(Space inSpace, int column, int depth) {
            goal.hang(column, depth);
            return inSpace.numberOf(goal);
        }

        private int spotNumber(Space inSpace, int spot) {
            return plan.hasSpot(spot) ? restNumber(inSpace, plan.spotColumn[spot], plan.spotDepth[spot]) : NONE;
        }

        private Search fromHere() {
            if (!hereBegun) {
                here.begin(present, false, EVERY_CODE, MOST_SWING);
                here.seed(moment.pose);
                hereBegun = true;
            }
            return here;
        }

        int stepsToSpot(int spot) {
            int number = spotNumber(present, spot);
            return fromHere().stepsTo(number);
        }

        int stepsToRest(int column, int depth) {
            int number = restNumber(present, column, depth);
            return fromHere().stepsTo(number);
        }

        /** 0 if one can hang still there; CANNOT else. */
        int stepsAtRest(int column, int depth) {
            return restNumber(present, column, depth) < 0 ? CANNOT : 0;
        }

        /** The code of a step of the way to a spot, so many steps ahead of its last one. */
        int codeOnWay(int spot, int stepsBack) {
            int number = spotNumber(present, spot);
            int code = here.codeMet(number);
            for (int i = 0; i < stepsBack && code >= 0; i++) {
                goal.moveBack(code);
                code = here.codeMet(present.numberOf(goal));
            }
            return code < 0 ? CANNOT : code;
        }

        /** What holds along the way to a spot, walked from its end; the way has been searched. */
        int onWay(int spot, int what) {
            int steps = here.stepsMet(spotNumber(present, spot));
            int answer = noted(what);
            for (int i = 0; i < steps; i++) {
                int code = here.codeMet(present.numberOf(goal));
                if (code < 0) {
                    return answer;
                }
                if (what == 2) {
                    answer += code / 3 == 1 ? 0 : 1;
                } else if (what == 3) {
                    answer += code % 3 == 1 ? 0 : 1;
                } else if (what == 4) {
                    answer = Math.min(answer, noted(what));
                } else {
                    answer = Math.max(answer, noted(what));
                }
                goal.moveBack(code);
            }
            return answer;
        }

        private int noted(int what) {
            switch (what) {
                case 0:
                    return Math.abs(goal.sway);
                case 1:
                    return Math.abs(goal.speed);
                case 4:
                    return present.freeAt(goal.load()) - goal.depth;
                default:
                    return 0;
            }
        }

        private Search toHome() {
            if (!homeBegun) {
                home.begin(present, true, EVERY_CODE, MOST_SWING);
                for (int column = 0; column < plan.width; column++) {
                    for (int depth = 1; depth <= plan.deep; depth++) {
                        goal.hang(column, depth);
                        home.seed(goal);
                    }
                }
                homeBegun = true;
            }
            return home;
        }

        int stepsHome(Pose pose) {
            int number = present.numberOf(pose);
            return toHome().stepsTo(number);
        }

        int countHoming() {
            return toHome().countMet();
        }

        /** The first step by which stillness is nearest; nothing, if it is there or there is no way. */
        int codeHome(Pose pose) {
            int steps = pose.isStill() ? 0 : stepsHome(pose);
            for (int code = 0; steps > 0 && code < CODES; code++) {
                goal.set(pose);
                goal.move(code, 0);
                if (home.stepsMet(present.numberOf(goal)) == steps - 1) {
                    return code;
                }
            }
            return NOTHING;
        }

        int legOf(int one, int other) {
            if (!plan.hasSpot(one) || !plan.hasSpot(other)) {
                return CANNOT;
            }
            if ((legsKnown >> one & 1) == 0) {
                searchLegs(one);
                legsKnown |= 1 << one;
            }
            return legs[MOST_SPOTS * one + other];
        }

        private void searchLegs(int one) {
            aside.begin(present, false, EVERY_CODE, MOST_SWING);
            if (spotNumber(present, one) >= 0) {
                aside.seed(goal);
            }
            for (int other = 0; other < MOST_SPOTS; other++) {
                int at = MOST_SPOTS * one + other;
                if (at >= 0 && at < legs.length) {
                    legs[at] = aside.stepsTo(spotNumber(present, other));
                }
            }
        }

        /** Steps from now to a spot by some codes alone, with no more sway behind each. */
        int stepsBySome(int spot, int codes, int mostSway) {
            aside.begin(present, false, codes, mostSway);
            aside.seed(moment.pose);
            return aside.stepsTo(spotNumber(present, spot));
        }

        int pushesTo(int spot) {
            aside.begin(present, false, EVERY_CODE, MOST_SWING);
            aside.seed(moment.pose);
            return aside.costTo(spotNumber(present, spot));
        }

        int stepsBehindWind(int spot, int force) {
            aside.begin(present, false, EVERY_CODE, MOST_SWING);
            goal.set(moment.pose);
            goal.move(NOTHING, force);
            aside.seed(goal);
            return aside.stepsTo(spotNumber(present, spot));
        }

        int stepsUnderPile(int column, int spot) {
            if (!plan.hasColumn(column)) {
                return CANNOT;
            }
            moment.piles[column]++;
            supposed.lay(plan, moment.piles, moment.holds);
            moment.piles[column]--;
            aside.begin(supposed, false, EVERY_CODE, MOST_SWING);
            aside.seed(moment.pose);
            return aside.stepsTo(spotNumber(supposed, spot));
        }

        /** Steps from rest to rest in the supposed space, which has been laid. */
        int supposedSteps(int column, int depth, int toColumn, int toDepth) {
            aside.begin(supposed, false, EVERY_CODE, MOST_SWING);
            goal.hang(column, depth);
            aside.seed(goal);
            return aside.stepsTo(restNumber(supposed, toColumn, toDepth));
        }
    }

    /** The best order of all spots. */
    private static final class Round {
        private final Plan plan;
        private final Ways ways;
        private final int[] order;
        final int[] best;
        private int bestSteps;
        private int version;

        Round(Plan ofPlan, Ways ofWays) {
            plan = ofPlan;
            ways = ofWays;
            order = new int[MOST_SPOTS];
            best = new int[MOST_SPOTS];
            version = NONE;
        }

        int fewestInAll() {
            if (version != ways.version) {
                bestSteps = CANNOT;
                goOn(0, 0, 0);
                version = ways.version;
            }
            return bestSteps;
        }

        /** Orders are tried by numbers, and only a better one takes the place of the best. */
        private void goOn(int done, int visited, int steps) {
            if (bestSteps >= 0 && steps >= bestSteps) {
                return;
            }
            if (done >= plan.told[LINE_SPOT] || done >= order.length) {
                bestSteps = steps;
                copyRow(order, best);
                return;
            }
            for (int spot = 0; spot < plan.told[LINE_SPOT]; spot++) {
                if ((visited >> spot & 1) == 0) {
                    int leg = done < 1 ? ways.stepsToSpot(spot) : ways.legOf(order[done - 1], spot);
                    if (leg >= 0 && done >= 0) {
                        order[done] = spot;
                        goOn(done + 1, visited | 1 << spot, steps + leg);
                    }
                }
            }
        }
    }

    /** Boxes carried from column to column, and the best order of all jobs. */
    private static final class Haul {
        private final Plan plan;
        private final Moment moment;
        private final Ways ways;
        private final int[] piles;
        private final int[] order;
        final int[] best;
        private int bestSteps;
        private int version;

        Haul(Plan ofPlan, Moment ofMoment, Ways ofWays) {
            plan = ofPlan;
            moment = ofMoment;
            ways = ofWays;
            piles = new int[MOST_COLUMNS];
            order = new int[MOST_JOBS];
            best = new int[MOST_JOBS];
            version = NONE;
        }

        int fromNow(int from, int to) {
            copyRow(moment.piles, piles);
            return stepsOf(NONE, NONE, from, to);
        }

        int fewestInAll() {
            if (version != ways.version) {
                bestSteps = CANNOT;
                copyRow(moment.piles, piles);
                goOn(0, 0, 0, NONE, NONE);
                version = ways.version;
            }
            return bestSteps;
        }

        /** Steps to the box, then with it; from now, if the column is NONE. */
        private int stepsOf(int column, int depth, int from, int to) {
            if (!plan.hasColumn(from) || !plan.hasColumn(to) || piles[from] < 1) {
                return CANNOT;
            }
            int grabDepth = plan.freeOf(piles, from);
            int first = 0;
            if (column == NONE) {
                first = ways.stepsToRest(from, grabDepth);
            } else {
                ways.supposed.lay(plan, piles, 0);
                first = ways.supposedSteps(column, depth, from, grabDepth);
            }
            if (first < 0) {
                return CANNOT;
            }
            piles[from]--;
            ways.supposed.lay(plan, piles, 1);
            piles[from]++;
            int second = ways.supposedSteps(from, grabDepth, to, dropDepth(to));
            return second < 0 ? CANNOT : first + second;
        }

        private int dropDepth(int to) {
            return plan.freeOf(piles, to) - 1;
        }

        /** Orders are tried by numbers, and only a better one takes the place of the best. */
        private void goOn(int done, int finished, int steps, int column, int depth) {
            if (bestSteps >= 0 && steps >= bestSteps) {
                return;
            }
            if (done >= plan.told[LINE_JOB] || done >= order.length) {
                bestSteps = steps;
                copyRow(order, best);
                return;
            }
            for (int job = 0; job < plan.told[LINE_JOB] && job < MOST_JOBS; job++) {
                int from = plan.jobFrom[job];
                int to = plan.jobTo[job];
                int more = (finished >> job & 1) != 0 ? CANNOT : stepsOf(column, depth, from, to);
                if (more >= 0 && plan.hasColumn(from) && plan.hasColumn(to) && done >= 0) {
                    int endDepth = dropDepth(to);
                    order[done] = job;
                    piles[from]--;
                    piles[to]++;
                    goOn(done + 1, finished | 1 << job, steps + more, to, endDepth);
                    piles[from]++;
                    piles[to]--;
                }
            }
        }
    }
}
