import java.util.ArrayList;
import java.util.List;
import java.util.Random;

/** Random texts and calls, the same to SwingCrane and to PlainCrane: each answer must be the same. */
public final class RandomRuns {
    private static final String[] WORDS = {"width", "deep", "top", "swing", "block", "spot", "start", "wind", "do",
        "pile", "job", "seed", "east", "west", "lift", "lower", "wait", "still"};

    private final Random random;
    private final SwingCrane crane = new SwingCrane();
    private final PlainCrane plain = new PlainCrane();
    private final List<String> calls = new ArrayList<>();
    private boolean wrong;

    private RandomRuns(long seed) {
        random = new Random(seed);
    }

    public static void main(String[] args) {
        int runs = args.length > 0 ? Integer.parseInt(args[0]) : 400;
        long first = args.length > 1 ? Long.parseLong(args[1]) : 1;
        int wrongRuns = 0;
        for (long seed = first; seed < first + runs && wrongRuns < 3; seed++) {
            RandomRuns run = new RandomRuns(seed);
            run.play();
            if (run.wrong) {
                wrongRuns++;
                System.out.println("seed " + seed + ": " + String.join("\n  ", run.calls));
            }
        }
        if (wrongRuns > 0) {
            System.exit(1);
        }
    }

    private int below(int n) {
        return random.nextInt(n);
    }

    private int from(int low, int high) {
        return low + random.nextInt(high - low + 1);
    }

    private void play() {
        int texts = from(1, 3);
        int left = 500;
        for (int t = 0; t < texts && !wrong; t++) {
            String text = below(3) == 0 ? textOfBoxes() : randomText();
            if (below(4) == 0) {
                text = spoilt(text);
            }
            left -= tell(text);
            int more = t == texts - 1 ? Math.min(left, 250) : below(60);
            for (int i = 0; i < more && left > 0 && !wrong; i++, left--) {
                call();
            }
        }
    }

    private int tell(String text) {
        int used = 0;
        for (int i = 0; i < text.length() && !wrong; i += 20) {
            int[] five = new int[5];
            for (int k = 0; k < 20; k++) {
                int sign = i + k < text.length() ? text.charAt(i + k) & 255 : 32;
                five[k / 4] = five[k / 4] << 8 | sign;
            }
            same("feed", crane.feed(five[0], five[1], five[2], five[3], five[4]),
                    plain.feed(five[0], five[1], five[2], five[3], five[4]));
            used++;
        }
        int n = below(20) == 0 ? from(-1, text.length() + 25) : text.length();
        same("text(" + n + ") of '" + text + "'", crane.text(n), plain.text(n));
        same("fault(0)", crane.fault(0), plain.fault(0));
        same("fault(1)", crane.fault(1), plain.fault(1));
        return used + 3;
    }

    private String randomText() {
        StringBuilder text = new StringBuilder();
        boolean large = below(40) == 0;
        int width = large ? 16 : from(4, 9);
        int deep = large ? 6 : from(2, 6);
        if (below(10) == 0) {
            text.append("seed ").append(below(100000)).append(';');
        }
        line(text, "width " + width);
        line(text, "deep " + deep);
        if (below(2) == 0 || !large) {
            line(text, "top " + from(1, 2));
        }
        line(text, "swing " + (large ? 4 : from(1, 4)));
        int lines = below(large ? 10 : 24);
        int wind = -1;
        boolean started = false;
        List<Integer> piled = new ArrayList<>();
        int[] told = new int[12];
        for (int i = 0; i < lines; i++) {
            int column = below(width);
            int depth = from(1, deep);
            switch (below(9)) {
                case 0 -> {
                    if (told[0]++ < 6 && below(2) == 0) {
                        line(text, "block " + column + " " + from(column, width - 1) + " " + from(0, deep));
                    }
                }
                case 1, 2 -> {
                    if (told[1]++ < 6) {
                        line(text, "spot " + "abcdefghij".substring(told[1], told[1] + from(1, 3)) + "x" + " "
                                + column + " " + depth);
                    }
                }
                case 3 -> {
                    if (!started && below(3) == 0) {
                        line(text, "start " + column + " " + depth);
                        started = true;
                    }
                }
                case 4 -> {
                    if (told[2]++ < 8) {
                        wind += from(1, 5);
                        line(text, "wind " + wind + " " + (below(3) == 0 ? from(-4, 4) : from(-1, 1)));
                    }
                }
                case 5, 6 -> {
                    if (told[3]++ < 16) {
                        line(text, "do " + WORDS[below(3) == 0 ? 17 : from(12, 17)] + " "
                                + (below(4) == 0 ? from(1, 30) : from(1, 4)));
                    }
                }
                case 7 -> {
                    if (told[4]++ < 8 && !piled.contains(column)) {
                        line(text, "pile " + column + " " + (below(3) == 0 ? depth : 1));
                        piled.add(column);
                    }
                }
                default -> {
                    int other = below(width);
                    if (other != column && told[5]++ < 3) {
                        int box = piled.isEmpty() ? column : piled.get(below(piled.size()));
                        line(text, "job " + (box == other ? column : box) + " " + other);
                    }
                }
            }
        }
        return text.length() > 690 ? text.substring(0, text.lastIndexOf(";", 690) + 1) : text.toString();
    }

    /** Few blocks, many boxes and jobs, spots where boxes can be grabbed. */
    private String textOfBoxes() {
        StringBuilder text = new StringBuilder();
        int width = from(4, 8);
        int deep = from(3, 6);
        line(text, "width " + width);
        line(text, "deep " + deep);
        line(text, "top " + from(1, 2));
        line(text, "swing " + from(1, 4));
        int[] boxes = new int[width];
        for (int i = from(1, 4); i > 0; i--) {
            int column = below(width);
            if (boxes[column] == 0) {
                boxes[column] = from(1, Math.min(3, deep - 1));
                line(text, "pile " + column + " " + boxes[column]);
                line(text, "spot " + "abcdefgh".charAt(column) + " " + column + " " + (deep - boxes[column]));
            }
        }
        if (below(3) == 0) {
            line(text, "block " + below(2) + " " + from(1, width - 1) + " " + from(deep - 1, deep));
        }
        for (int i = below(4); i > 0; i--) {
            int one = below(width);
            for (int k = 0; k < 5 && boxes[one] == 0; k++) {
                one = below(width);
            }
            int other = below(width);
            if (one != other) {
                line(text, "job " + one + " " + other);
            }
        }
        for (int i = below(4); i > 0; i--) {
            line(text, "do " + WORDS[from(12, 17)] + " " + from(1, 5));
        }
        return text.toString();
    }

    private void line(StringBuilder text, String line) {
        String said = line;
        if (below(6) == 0) {
            said = said.replace(" ", below(2) == 0 ? "\n " : "  ");
        }
        text.append(said).append(below(8) == 0 ? " ;" : ";").append(below(4) == 0 ? " " : "");
    }

    private String spoilt(String text) {
        StringBuilder s = new StringBuilder(text);
        int times = from(1, 3);
        for (int i = 0; i < times && s.length() > 0; i++) {
            int at = below(s.length());
            switch (below(9)) {
                case 0 -> s.deleteCharAt(at);
                case 1 -> s.insert(at, (char) below(256));
                case 2 -> s.insert(at, "-; 0a9".charAt(below(6)));
                case 3 -> s.insert(at, " " + WORDS[below(18)] + " ");
                case 4 -> s.setLength(at);
                case 5 -> s.insert(s.lastIndexOf(";", at) + 1, WORDS[below(12)] + " " + below(10) + ";");
                case 6 -> s.insert(s.lastIndexOf(";", at) + 1, repeatedLine());
                case 7 -> s.insert(at, String.valueOf(below(2000000000)).repeat(from(1, 2)));
                default -> s.setCharAt(at, (char) (s.charAt(at) + from(-1, 1) & 255));
            }
        }
        return s.length() > 690 ? s.substring(0, 690) : s.toString();
    }

    private String repeatedLine() {
        return switch (below(7)) {
            case 0 -> "block 1 2 1;".repeat(from(1, 7));
            case 1 -> "do east 1;".repeat(from(1, 17));
            case 2 -> "job 1 2;".repeat(from(1, 4));
            case 3 -> "pile 1 1;pile 2 1;pile 3 1;";
            case 4 -> "spot q 0 1; spot r 1 1; spot s 1 2;";
            case 5 -> "wind 990 1; wind 995 -1; wind 999 0;wind 999 0;";
            default -> "seed 7;start 0 1;";
        };
    }

    private int spotArg() {
        return below(8) == 0 ? from(-2, 7) : below(Math.max(1, plain.count(4)));
    }

    private int columnArg() {
        return below(12) == 0 ? from(-2, 17) : below(plain.count(0));
    }

    private void same(String call, long got, long want) {
        calls.add(call + " answered " + got);
        if (got != want && !wrong) {
            calls.add("   BUT due is " + want);
            wrong = true;
        }
    }

    private int asked(int what, boolean ofPlain) {
        try {
            return ofPlain ? plain.now(what) : crane.now(what);
        } catch (IndexOutOfBoundsException e) {
            return -1001;
        } catch (java.util.NoSuchElementException e) {
            return -1002;
        }
    }

    private void compareNow() {
        for (int what = 0; what <= 8 && !wrong; what++) {
            same("now(" + what + ")", asked(what, false), asked(what, true));
        }
    }

    private void call() {
        int kind = below(100);
        if (kind < 40) {
            move();
        } else if (kind < 70) {
            askWays();
        } else {
            askOthers();
        }
    }

    private void stepBy(int a, int u) {
        same("step(" + a + "," + u + ")", crane.step(a, u), plain.step(a, u));
    }

    private void move() {
        if (plain.halt() < 0 && below(2) == 0) {
            for (int i = from(1, 4); i > 0; i--) {
                same("undo", crane.undo(), plain.undo());
            }
            return;
        }
        switch (below(12)) {
            case 0, 1, 2 -> stepBy(from(-1, 1), from(-1, 1));
            case 3 -> {
                int can = plain.can();
                for (int i = 0; i < 6; i++) {
                    int code = below(9);
                    if ((can >> code & 1) != 0) {
                        stepBy(code / 3 - 1, code % 3 - 1);
                        break;
                    }
                }
            }
            case 4, 5 -> followWay();
            case 6 -> {
                int n = below(8) == 0 ? from(-1, 42) : from(1, 6);
                same("flow(" + n + ")", crane.flow(n), plain.flow(n));
            }
            case 7 -> same("grab", crane.grab() ? 1 : 0, plain.grab() ? 1 : 0);
            case 8 -> same("drop", crane.drop() ? 1 : 0, plain.drop() ? 1 : 0);
            case 9 -> {
                if (below(3) == 0) {
                    same("undo", crane.undo(), plain.undo());
                } else {
                    stepBy(0, 0);
                }
            }
            case 10 -> {
                if (below(4) == 0) {
                    same("keep", crane.keep(), plain.keep());
                } else if (below(6) == 0) {
                    same("back", crane.back(), plain.back());
                } else {
                    stepBy(below(5) == 0 ? from(-3, 3) : 0, below(5) == 0 ? from(-3, 3) : 0);
                }
            }
            default -> toGrab();
        }
        if (below(5) == 0) {
            compareNow();
        }
    }

    /** Goes some steps of the way to a spot. */
    private void followWay() {
        int spot = spotArg();
        int steps = plain.fewest(spot);
        int most = below(3) == 0 ? steps : Math.min(steps, 3);
        for (int k = 0; k < most && k < 12 && !wrong; k++) {
            int code = plain.by(spot, 0);
            same("by(" + spot + ",0)", crane.by(spot, 0), code);
            if (code < 0) {
                return;
            }
            stepBy(code / 3 - 1, code % 3 - 1);
        }
    }

    /** Hoists to where a box can be grabbed or dropped, if it hangs still. */
    private void toGrab() {
        for (int i = 0; i < 6 && plain.now(6) == 1 && !wrong; i++) {
            int goal = plain.free(plain.now(0)) - plain.now(8);
            int depth = plain.now(4);
            if (depth == goal) {
                break;
            }
            stepBy(0, Integer.compare(goal, depth));
        }
        same("grab", crane.grab() ? 1 : 0, plain.grab() ? 1 : 0);
    }

    private void askWays() {
        int spot = spotArg();
        int other = spotArg();
        int column = columnArg();
        int to = columnArg();
        int k = from(-1, 8);
        int w = below(6) == 0 ? from(-9, 9) : from(-2, 2);
        int what = below(10) == 0 ? from(-2, 6) : below(5);
        switch (below(22)) {
            case 0 -> same("fewest(" + spot + ")", crane.fewest(spot), plain.fewest(spot));
            case 1, 2 -> same("by(" + spot + "," + k + ")", crane.by(spot, k), plain.by(spot, k));
            case 3 -> same("halt", crane.halt(), plain.halt());
            case 4 -> same("rests(" + (k & 3) + ")", crane.rests(k & 3), plain.rests(k & 3));
            case 5 -> same("between(" + spot + "," + other + ")", crane.between(spot, other),
                    plain.between(spot, other));
            case 6 -> same("tour", crane.tour(), plain.tour());
            case 7 -> same("stop(" + spot + ")", crane.stop(spot), plain.stop(spot));
            case 8, 9 -> same("carry(" + column + "," + to + ")", crane.carry(column, to), plain.carry(column, to));
            case 10 -> same("jobs", crane.jobs(), plain.jobs());
            case 11 -> same("job(" + (k & 3) + ")", crane.job(k & 3), plain.job(k & 3));
            case 12 -> same("ifPile(" + column + "," + spot + ")", crane.ifPile(column, spot),
                    plain.ifPile(column, spot));
            case 13 -> same("reach(" + (k & 3) + ")", crane.reach(k & 3), plain.reach(k & 3));
            case 14 -> same("safe(" + k + ")", crane.safe(k), plain.safe(k));
            case 15 -> same("bears", crane.bears(), plain.bears());
            case 16 -> same("level(" + spot + ")", crane.level(spot), plain.level(spot));
            case 17 -> same("ifWind(" + spot + "," + w + ")", crane.ifWind(spot, w), plain.ifWind(spot, w));
            case 18 -> same("nearest", crane.nearest(), plain.nearest());
            case 19 -> same("least(" + spot + ")", crane.least(spot), plain.least(spot));
            case 20 -> same("steadiest(" + spot + ")", crane.steadiest(spot), plain.steadiest(spot));
            default -> same("along(" + spot + "," + what + ")", crane.along(spot, what), plain.along(spot, what));
        }
    }

    private void askOthers() {
        int column = columnArg();
        int other = columnArg();
        int k = below(4) == 0 ? from(-2, 62) : from(-1, 9);
        int what = from(-1, 3);
        switch (below(20)) {
            case 0 -> same("pile(" + column + ")", crane.pile(column), plain.pile(column));
            case 1 -> same("free(" + column + ")", crane.free(column), plain.free(column));
            case 2 -> same("gap(" + column + "," + other + ")", crane.gap(column, other), plain.gap(column, other));
            case 3 -> same("wind(" + k + ")", crane.wind(k), plain.wind(k));
            case 4 -> same("why(" + k + ")", crane.why(k), plain.why(k));
            case 5 -> same("can", crane.can(), plain.can());
            case 6 -> same("sway(" + k + ")", crane.sway(k), plain.sway(k));
            case 7 -> same("drift", crane.drift(), plain.drift());
            case 8 -> pulses();
            case 9, 10, 11 -> same("log(" + k + "," + what + ")", crane.log(k, what), plain.log(k, what));
            case 12, 13 -> same("again", crane.again(), plain.again());
            case 14, 15 -> chance();
            case 16, 17 -> {
                int c = from(-1, 13);
                same("count(" + c + ")", crane.count(c), plain.count(c));
            }
            case 18 -> {
                named();
                extremes();
            }
            default -> compareNow();
        }
    }

    /** Arguments far out, one of two or three at times. */
    private void extremes() {
        int[] far = {Integer.MIN_VALUE, Integer.MAX_VALUE, -1 << 16, 1 << 16, -3, 64, 255, 0};
        int x = far[below(8)];
        int y = below(2) == 0 ? 0 : far[below(8)];
        same("fault", crane.fault(x), plain.fault(x));
        same("named", crane.named(x), plain.named(x));
        same("now", asked(x, false), asked(x, true));
        same("pile", crane.pile(x), plain.pile(x));
        same("free", crane.free(x), plain.free(x));
        same("gap", crane.gap(x, y), plain.gap(x, y));
        same("wind", crane.wind(x), plain.wind(x));
        same("why", crane.why(x), plain.why(x));
        same("sway", crane.sway(x), plain.sway(x));
        same("fewest", crane.fewest(x), plain.fewest(x));
        same("by", crane.by(y, x), plain.by(y, x));
        same("rests", crane.rests(x), plain.rests(x));
        same("between", crane.between(x, y), plain.between(x, y));
        same("stop", crane.stop(x), plain.stop(x));
        same("carry", crane.carry(y, x), plain.carry(y, x));
        same("job", crane.job(x), plain.job(x));
        same("ifPile", crane.ifPile(x, y), plain.ifPile(x, y));
        same("reach", crane.reach(x), plain.reach(x));
        same("safe", crane.safe(x), plain.safe(x));
        same("pulses", crane.pulses(x, y, y), plain.pulses(x, y, y));
        same("pulses", crane.pulses(1, x, y), plain.pulses(1, x, y));
        same("shortest", crane.shortest(1, x), plain.shortest(1, x));
        same("level", crane.level(x), plain.level(x));
        same("ifWind", crane.ifWind(y, x), plain.ifWind(y, x));
        same("least", crane.least(x), plain.least(x));
        same("steadiest", crane.steadiest(x), plain.steadiest(x));
        same("along", crane.along(y, x), plain.along(y, x));
        same("log", crane.log(x, y), plain.log(x, y));
        same("chance", crane.chance(x, 5, y), plain.chance(x, 5, y));
        same("chance", crane.chance(5, x, y), plain.chance(5, x, y));
        same("count", crane.count(x), plain.count(x));
        same("flow", crane.flow(x), plain.flow(x));
        same("step", crane.step(x, y), plain.step(x, y));
        same("text", crane.text(x), plain.text(x));
    }

    private void pulses() {
        int depth = from(0, 7);
        int n = from(-1, 9);
        int d = below(3) == 0 ? from(-9, 9) : from(-2, 2);
        same("pulses(" + depth + "," + n + "," + d + ")", crane.pulses(depth, n, d), plain.pulses(depth, n, d));
        same("shortest(" + depth + "," + d + ")", crane.shortest(depth, d), plain.shortest(depth, d));
    }

    private void chance() {
        int seed = below(3) == 0 ? from(-2, 3) : random.nextInt() & Integer.MAX_VALUE;
        int n = below(8) == 0 ? from(-1, 62) : from(1, 20);
        int what = below(8) == 0 ? from(-1, 3) : below(3);
        same("chance(" + seed + "," + n + "," + what + ")", crane.chance(seed, n, what),
                plain.chance(seed, n, what));
    }

    private void named() {
        int letters = 0;
        int length = from(1, 5);
        int first = from(2, 8);
        for (int i = 0; i < 6; i++) {
            letters = letters << 5 | (i < length - 1 ? first + i : i == length - 1 ? 24 : 0);
        }
        same("named(" + letters + ")", crane.named(letters), plain.named(letters));
    }
}
