/** The edges of pulses, the log, chance, what can be undone, images and counts: promises 33, 34 and 41 to 47. */
final class PastEdges extends Edges {
    private static final int[] FAR = {Integer.MIN_VALUE, Integer.MAX_VALUE};
    private static final int LOWERED = 5;
    private static final int LIFTED = 3;
    private static final int NOTHING = 4;

    private PastEdges() {
    }

    /** All rows of n pushes, one by one. */
    private static int rows(int turn, int n, int d) {
        int found = 0;
        int all = (int) Math.pow(3, n);
        for (int row = 0; row < all; row++) {
            int speed = 0;
            int sway = 0;
            int last = 0;
            for (int i = 0, rest = row; i < n; i++, rest /= 3) {
                int push = rest % 3 - 1;
                int next = turn * sway - last - push;
                last = sway;
                sway = next;
                speed += push;
            }
            found += speed == d && sway == 0 && last == 0 ? 1 : 0;
        }
        return found;
    }

    private static void pulses() {
        SwingCrane x = new SwingCrane();
        sentence(33, "n 0 .. 8, DEPTH 1 .. 6, SPEED -8 .. 8");
        int[] turn = {0, -1, -1, 0, 0, 1, 1};
        for (int depth = 1; depth <= 6; depth++) {
            for (int n = 0; n <= 8; n++) {
                for (int d = -8; d <= 8; d++) {
                    at("pulses(" + depth + ", " + n + ", " + d + ")", x.pulses(depth, n, d), rows(turn[depth], n, d));
                }
            }
        }
        sentence(33, "NONE: no such ones");
        int[][] none = {{0, 3, 3}, {7, 3, 3}, {1, -1, 0}, {1, 9, 0}, {1, 3, 9}, {1, 3, -9}, {-1, 3, 3}, {FAR[0], 3, 3},
            {FAR[1], 3, 3}, {1, FAR[0], 0}, {1, FAR[1], 0}, {1, 3, FAR[0]}, {1, 3, FAR[1]}};
        for (int[] of : none) {
            beyond("pulses(" + of[0] + ", " + of[1] + ", " + of[2] + ")", x.pulses(of[0], of[1], of[2]), -1);
        }
        sentence(33, "without blocks, bounds of SWAY, SPEED, COLUMNS");
        SwingCrane small = crane("width 4;deep 2;top 1;swing 1;block 0 3 0;");
        at("pulses(6, 8, 6)", small.pulses(6, 8, 6), 4);
        at("pulses(3, 8, 8)", small.pulses(3, 8, 8), 1);
        at("shortest(6, -6)", small.shortest(6, -6), 6);
    }

    private static void shortest() {
        SwingCrane x = new SwingCrane();
        sentence(34, "The fewest PUSHES n 0 .. 8; -2: none");
        int[][] want = {{-2, -2, 3, -2, -2, 6, -2, -2}, {-2, 3, -2, 4, -2, 7, -2, 8}, {3, 4, 5, 5, 7, 6, -2, -2}};
        for (int depth = 1; depth <= 6; depth++) {
            for (int d = 1; d <= 8; d++) {
                at("shortest(" + depth + ", " + d + ")", x.shortest(depth, d), want[(depth - 1) / 2][d - 1]);
                at("shortest(" + depth + ", " + -d + ")", x.shortest(depth, -d), want[(depth - 1) / 2][d - 1]);
            }
            sentence(34, "NONE: no such ones, d is 0");
            int[] none = {0, 9, -9, FAR[0], FAR[1]};
            for (int d : none) {
                beyond("shortest(" + depth + ", " + d + ")", x.shortest(depth, d), -1);
            }
        }
        int[] none = {0, 7, -1, FAR[0], FAR[1]};
        for (int depth : none) {
            beyond("shortest(" + depth + ", 3)", x.shortest(depth, 3), -1);
            beyond("shortest(" + depth + ", 0)", x.shortest(depth, 0), -1);
        }
    }

    /** A crane that has been lowered and lifted in turn, for so many ticks. */
    private static SwingCrane hoisted(int ticks) {
        SwingCrane x = crane("start 8 3;");
        for (int i = 0; i < ticks; i++) {
            steps(x, i % 2 == 0 ? LOWERED : LIFTED);
        }
        return x;
    }

    private static void dueLog(SwingCrane x, int ticks) {
        int kept = Math.min(40, ticks);
        for (int k = 0; k < kept; k++) {
            int tick = ticks - 1 - k;
            at("log(" + k + ", 2) of " + ticks, x.log(k, 2), tick);
            at("log(" + k + ", 0) of " + ticks, x.log(k, 0), tick % 2 == 0 ? 'N' : 'n');
            at("log(" + k + ", 1) of " + ticks, x.log(k, 1), tick % 2);
        }
        beyond("log(" + kept + ", 0) of " + ticks, x.log(kept, 0), -1);
        beyond("log(" + kept + ", 2) of " + ticks, x.log(kept, 2), -1);
    }

    private static void log() {
        sentence(41, "0 the latest; 40 are kept");
        int[] ticks = {0, 1, 39, 40, 41, 69, 70, 71, 80, 141};
        for (int n : ticks) {
            dueLog(hoisted(n), n);
        }
        sentence(41, "NONE: no such ones");
        SwingCrane x = hoisted(41);
        int[] none = {-1, 40, 41, 70, FAR[0], FAR[1]};
        for (int k : none) {
            for (int what = 0; what <= 2; what++) {
                beyond("log(" + k + ", " + what + ")", x.log(k, what), -1);
            }
        }
        int[] noWhat = {-1, 3, 4, FAR[0], FAR[1]};
        for (int what : noWhat) {
            beyond("log(0, " + what + ")", x.log(0, what), -1);
            beyond("log(39, " + what + ")", x.log(39, what), -1);
        }
        sentence(41, "e by a PUSH east, w west, n none, as a capital where it was lowered; whether it was lifted");
        String letters = "wwWnnNeeE";
        for (int code = 0; code < 9; code++) {
            SwingCrane y = crane("start 8 3;");
            steps(y, code);
            at("log(0, 0) of " + code, y.log(0, 0), letters.charAt(code));
            at("log(0, 1) of " + code, y.log(0, 1), code % 3 == 0 ? 1 : 0);
            at("log(0, 2) of " + code, y.log(0, 2), 0);
        }
        sentence(41, "of TICKS, not of GRAB and DROP");
        SwingCrane box = crane("start 8 5;pile 8 1;");
        at("grab()", box.grab(), true);
        beyond("log(0, 0)", box.log(0, 0), -1);
        at("count(8)", box.count(8), 0);
    }

    private static void lower(SwingCrane x, int behind) {
        for (int i = 0; i < behind; i++) {
            steps(x, NOTHING);
        }
        steps(x, LOWERED);
    }

    private static void again() {
        sentence(42, "0: none");
        at("again() without TICKS", new SwingCrane().again(), 0);
        at("again(): one", hoisted(1).again(), 0);
        at("again(): Nn", hoisted(2).again(), 0);
        at("again(): NnN", hoisted(3).again(), 0);
        sentence(42, "The most m");
        at("again(): NnNn", hoisted(4).again(), 2);
        at("again(): NnNnN", hoisted(5).again(), 2);
        at("again(): NnNnNnNn", hoisted(8).again(), 4);
        sentence(42, "that are kept");
        int[][] still = {{38, 19}, {39, 19}, {40, 20}, {41, 20}, {42, 20}, {44, 20}, {80, 20}};
        for (int[] pair : still) {
            SwingCrane x = new SwingCrane();
            for (int i = 0; i < pair[0]; i++) {
                steps(x, NOTHING);
            }
            at("again() of " + pair[0], x.again(), pair[1]);
        }
        SwingCrane twenty = new SwingCrane();
        lower(twenty, 19);
        lower(twenty, 19);
        at("again(): twice 20", twenty.again(), 20);
        SwingCrane more = new SwingCrane();
        lower(more, 20);
        lower(more, 20);
        beyond("again(): twice 21", more.again(), 0);
        sentence(42, "the letters");
        SwingCrane lifted = crane("start 8 3;");
        steps(lifted, NOTHING, LIFTED);
        at("again(): lifted has the same letter", lifted.again(), 1);
        steps(lifted, LOWERED);
        beyond("again(): a capital is another letter", lifted.again(), 0);
    }

    private static int draw(long seed) {
        long next = (seed * 1103515245L + 12345L) % (1L << 31);
        return (int) (next / 65536 % 3) - 1;
    }

    private static void chance() {
        SwingCrane x = crane("start 8 3;seed 99999;");
        sentence(43, "n 1 .. 60, a seed 0 .. 2147483647 (-1: that of the TEXT), what 0 .. 2; NONE: no such ones");
        int[] noSeed = {-2, -3, FAR[0]};
        int[] noNumber = {0, -1, 61, 62, FAR[0], FAR[1]};
        int[] noWhat = {-1, 3, 4, FAR[0], FAR[1]};
        for (int seed : noSeed) {
            beyond("chance(" + seed + ", 1, 0)", x.chance(seed, 1, 0), -1);
        }
        for (int n : noNumber) {
            beyond("chance(0, " + n + ", 0)", x.chance(0, n, 0), -1);
        }
        for (int what : noWhat) {
            beyond("chance(0, 1, " + what + ")", x.chance(0, 1, what), -1);
        }
        int[] seeds = {0, 1, 99999, FAR[1] - 1, FAR[1]};
        for (int seed : seeds) {
            at("chance(" + seed + ", 1, 0)", x.chance(seed, 1, 0), 1);
            for (int what = 0; what <= 2; what++) {
                inside("chance(" + seed + ", 59, " + what + ")", x.chance(seed, 59, what),
                        PlainAnswers.chance("start 8 3;", seed, 59, what));
                at("chance(" + seed + ", 60, " + what + ")", x.chance(seed, 60, what),
                        PlainAnswers.chance("start 8 3;", seed, 60, what));
            }
        }
        at("chance(0, 60, 0): it never ends", x.chance(0, 60, 0), 60);
        for (int n = 1; n <= 60; n++) {
            for (int what = 0; what <= 2; what++) {
                at("chance(-1, " + n + ", " + what + ")", x.chance(-1, n, what), x.chance(99999, n, what));
            }
        }
        stays(x, "chance(0, 61, 0)", () -> x.chance(0, 61, 0), -1);
        at("count(7)", x.count(7), 0);
    }

    /** NOW sways by the wind of the first tick; what comes by chance behind it is asked for alone. */
    private static void chanceBehindWind(String text) {
        SwingCrane x = crane(text);
        steps(x, NOTHING);
        PlainCrane plain = PlainAnswers.behindStep(text);
        boolean less = false;
        for (int seed = 0; seed < 12; seed++) {
            for (int n = 1; n <= 4; n++) {
                int greatest = x.chance(seed, n, 2);
                at("chance(" + seed + ", " + n + ", 2) behind '" + text + "'", greatest, plain.chance(seed, n, 2));
                at("chance(" + seed + ", " + n + ", 0) behind '" + text + "'", x.chance(seed, n, 0),
                        plain.chance(seed, n, 0));
                less |= greatest < Math.abs(x.now(2));
            }
        }
        at("one is less than NOW's", less, true);
    }

    /** At the west end a wind of -1 blows the load out, so that the first draw tells what happens. */
    private static void chanceEnds() {
        sentence(43, "with a WIND of a DRAW modulo 3 less 1; if the STEP can't be so, it ends");
        SwingCrane x = crane("width 4;deep 2;top 1;swing 1;");
        int[] ends = new int[3];
        for (int i = 0; i < 40; i++) {
            int seed = i < 20 ? i : FAR[1] - i + 20;
            int wind = draw(seed);
            ends[wind + 1]++;
            at("chance(" + seed + ", 1, 0)", x.chance(seed, 1, 0), wind < 0 ? 0 : 1);
            at("chance(" + seed + ", 1, 1)", x.chance(seed, 1, 1), wind > 0 ? 0 : 1);
            at("chance(" + seed + ", 1, 2)", x.chance(seed, 1, 2), wind > 0 ? 1 : 0);
            if (wind < 0) {
                beyond("chance(" + seed + ", 60, 0): no more", x.chance(seed, 60, 0), 0);
            }
        }
        for (int count : ends) {
            at("each WIND was drawn", count > 0, true);
        }
        sentence(43, "without any NOW's");
        SwingCrane sways = crane("width 8;swing 2;start 4 1;wind 0 2;");
        steps(sways, NOTHING);
        at("now(2)", sways.now(2), 2);
        steps(sways, NOTHING);
        at("now(2)", sways.now(2), -2);
        chanceBehindWind("start 8 3;wind 0 4;");
        chanceBehindWind("start 8 3;wind 0 -3;");
        chanceBehindWind("start 8 1;wind 0 2;");
        chanceBehindWind("swing 2;start 8 5;wind 0 2;");
        SwingCrane out = crane("width 4;top 1;start 2 1;");
        steps(out, 7);
        at("halt()", out.halt(), -2);
        at("chance(0, 60, 0): it rolls out", out.chance(0, 60, 0), 0);
        at("chance(0, 60, 1)", out.chance(0, 60, 1), 0);
        at("chance(0, 60, 2)", out.chance(0, 60, 2), 1);
        SwingCrane fast = crane("width 4;top 2;start 0 1;");
        steps(fast, 7, 7);
        dueNow(fast, 3, 2, 0, -1, 1);
        at("chance(0, 60, 0): it rolls out", fast.chance(0, 60, 0), 0);
        at("chance(0, 60, 2): NOW's SWAY", fast.chance(0, 60, 2), 0);
        sentence(43, "from NOW on, that may not STAND");
        SwingCrane stuck = crane("block 8 8 0;start 8 1;");
        for (int seed = 0; seed < 20; seed++) {
            int wind = draw(seed);
            at("chance(" + seed + ", 1, 0): blown free", stuck.chance(seed, 1, 0), wind == 0 ? 0 : 1);
            at("chance(" + seed + ", 1, 1)", stuck.chance(seed, 1, 1), wind == 0 ? 1 : 0);
            at("chance(" + seed + ", 1, 2)", stuck.chance(seed, 1, 2), Math.abs(wind));
        }
        sentence(43, "in place of that told");
        SwingCrane told = crane("start 8 3;wind 0 4;wind 1 4;");
        SwingCrane calm = crane("start 8 3;");
        for (int n = 1; n <= 60; n++) {
            at("chance(7, " + n + ", 2)", told.chance(7, n, 2), calm.chance(7, n, 2));
        }
    }

    private static void undo() {
        sentence(44, "NONE: none");
        SwingCrane x = crane("start 8 3;pile 8 3;do lower 1;do lift 9;");
        stays(x, "undo()", x::undo, -1);
        String first = look(x);
        at("grab()", x.grab(), true);
        String holds = look(x);
        at("flow(3)", x.flow(3), 0);
        steps(x, LIFTED);
        String high = look(x);
        at("flow(1)", x.flow(1), 1);
        at("undo() of the FLOW", x.undo(), 2);
        at("what can be seen", look(x).equals(high), true);
        at("undo() of a STEP", x.undo(), 1);
        at("what can be seen", look(x).equals(holds), true);
        at("drop()", x.drop(), true);
        at("undo() of DROP", x.undo(), 1);
        at("what can be seen", look(x).equals(holds), true);
        at("undo() of GRAB", x.undo(), 0);
        at("what can be seen", look(x).equals(first), true);
        stays(x, "undo()", x::undo, -1);
        sentence(44, "the latest first (30 at most)");
        int[] ticks = {29, 30, 31, 59, 60, 61, 95};
        for (int n : ticks) {
            undoAll(n);
        }
    }

    private static void undoAll(int ticks) {
        SwingCrane x = hoisted(ticks);
        int kept = Math.min(30, ticks);
        at("count(9) of " + ticks, x.count(9), kept);
        for (int left = kept - 1; left >= 0; left--) {
            at("undo() of " + ticks, x.undo(), left);
            int tick = ticks - kept + left;
            at("count(7)", x.count(7), tick);
            at("now(4)", x.now(4), 3 + tick % 2);
            at("count(8): as it was ahead of it", x.count(8), Math.min(40, tick));
        }
        dueLog(x, ticks - kept);
        stays(x, "undo() of " + ticks, x::undo, -1);
    }

    private static void undoBoxes() {
        sentence(44, "GRAB, DROP can be undone (30 at most)");
        SwingCrane x = crane("start 8 5;pile 8 1;");
        for (int i = 0; i < 31; i++) {
            at("grab() or drop()", i % 2 == 0 ? x.grab() : x.drop(), true);
            at("count(9)", x.count(9), Math.min(30, i + 1));
        }
        for (int left = 29; left >= 0; left--) {
            at("undo()", x.undo(), left);
            at("now(8)", x.now(8), (left + 1) % 2);
            at("pile(8)", x.pile(8), left % 2);
        }
        stays(x, "undo()", x::undo, -1);
        at("now(8): the first GRAB stays", x.now(8), 1);
        sentence(44, "what is refused isn't undone");
        SwingCrane y = crane("start 8 1;");
        steps(y, LOWERED);
        y.step(2, 2);
        y.flow(41);
        y.flow(1);
        y.grab();
        y.drop();
        y.keep();
        at("undo()", y.undo(), 0);
        at("now(4)", y.now(4), 1);
    }

    private static void keepAndBack() {
        sentence(46, "NONE: there is none");
        SwingCrane x = crane("start 8 3;pile 8 3;do lower 1;do lift 9;seed 3;");
        steps(x, LIFTED);
        stays(x, "back()", x::back, -1);
        sentence(45, "An IMAGE is kept (in place of one ahead): the TICK");
        x.undo();
        at("keep()", x.keep(), 0);
        at("grab()", x.grab(), true);
        steps(x, LIFTED);
        at("keep()", x.keep(), 1);
        String kept = look(x);
        at("count(9): still to be undone", x.count(9), 2);
        steps(x, NOTHING, LOWERED);
        at("drop()", x.drop(), true);
        at("back(): the later one", x.back(), 1);
        sentence(46, "nothing to undo then");
        at("count(9)", x.count(9), 0);
        stays(x, "undo()", x::undo, -1);
        sentence(46, "All is as in the IMAGE; it stays");
        String nothingToUndo = kept.replace(" 1 1 2 0 0 2 ", " 1 1 0 0 0 2 ");
        at("what can be seen, but what can be undone", look(x).equals(nothingToUndo), true);
        steps(x, NOTHING);
        at("undo()", x.undo(), 0);
        at("back() again", x.back(), 1);
        steps(x, LOWERED);
        at("drop()", x.drop(), true);
        at("back() again", x.back(), 1);
        at("now(8)", x.now(8), 1);
        at("pile(8)", x.pile(8), 2);
        sentence(46, "no IMAGE behind a text");
        SwingCrane y = crane("start 8 3;");
        y.keep();
        tell(y, "x");
        at("back() behind a FAULT", y.back(), 0);
        y.text(5);
        at("back() behind -2", y.back(), 0);
        y.text(0);
        stays(y, "back()", y::back, -1);
    }

    private static void imageOfLogAndFlow() {
        sentence(46, "how far the FLOW is, the LOG");
        SwingCrane x = crane("start 8 3;do lower 1;do lift 1;do wait 30;do wait 30;");
        at("flow(2)", x.flow(2), 2);
        x.keep();
        at("flow(40)", x.flow(40), 40);
        at("count(8)", x.count(8), 40);
        at("back()", x.back(), 2);
        at("count(6)", x.count(6), 2);
        at("count(8)", x.count(8), 2);
        at("log(1, 0)", x.log(1, 0), 'N');
        beyond("log(2, 0)", x.log(2, 0), -1);
        at("flow(40)", x.flow(40), 40);
        at("flow(40)", x.flow(40), 20);
        x.keep();
        String full = look(x);
        x.text(-1);
        for (int i = 0; i < 41; i++) {
            steps(x, i == 0 ? LOWERED : NOTHING);
        }
        at("back()", x.back(), 62);
        at("log of 40", look(x).substring(look(x).length() - 400).equals(full.substring(full.length() - 400)), true);
        at("again()", x.again(), 20);
    }

    private static void count() {
        sentence(47, "NONE for another what");
        SwingCrane x = new SwingCrane();
        int[] none = {-1, 13, 14, FAR[0], FAR[1]};
        for (int what : none) {
            beyond("count(" + what + ")", x.count(what), -1);
        }
        int[] without = {16, 6, 2, 4, 0, 0, 0, 0, 0, 0, 0, 0, 0};
        for (int what = 0; what <= 12; what++) {
            at("count(" + what + ") without LINES", x.count(what), without[what]);
        }
        sentence(47, "8 what is in the LOG (40 at most), 9 what can be undone");
        for (int i = 1; i <= 45; i++) {
            steps(x, NOTHING);
            at("count(8)", x.count(8), Math.min(40, i));
            at("count(9)", x.count(9), Math.min(30, i));
            at("count(7)", x.count(7), i);
        }
        sentence(47, "6 TICKS the FLOW has gone, not those by call");
        SwingCrane flow = crane("start 8 3;do wait 3;");
        steps(flow, NOTHING);
        at("count(6)", flow.count(6), 0);
        flow.flow(2);
        steps(flow, NOTHING);
        at("count(6)", flow.count(6), 2);
        at("count(7)", flow.count(7), 4);
        at("count(5): ORDERS, not how often", flow.count(5), 1);
        sentence(47, "12 BOXES on all PILES");
        SwingCrane boxes = crane("pile 0 5;pile 1 6;pile 2 6;pile 3 6;pile 4 6;pile 5 6;pile 6 6;pile 15 6;");
        at("count(12)", boxes.count(12), 47);
        at("grab()", boxes.grab(), true);
        at("count(12): not what it HOLDS", boxes.count(12), 46);
    }

    static void run() {
        pulses();
        shortest();
        log();
        again();
        chance();
        chanceEnds();
        undo();
        undoBoxes();
        keepAndBack();
        imageOfLogAndFlow();
        count();
    }
}
