/** For each promise of the document the ordinary answers, the edges that it names, and wrong inputs. */
public final class PromiseTests extends Due {
    /** Rests at 1..4 deep; blocks over columns 3 and 4; winds at ticks 2 and 5. */
    private static final String HALL = "width 8;deep 4;top 2;swing 3;spot far 7 1;spot near 2 3;spot low 5 4;"
            + "block 3 4 2;start 0 1;wind 2 1;wind 5 -2;do east 2;do lower 1;do still 5;do lift 1;";
    private static final String BOXES = "width 6;deep 4;top 1;swing 2;pile 1 2;pile 4 1;job 1 3;job 4 1;job 3 5;"
            + "spot a 1 2;";
    /** Two columns on each side of a wall that no rope clears. */
    private static final String WALL = "width 6;deep 2;top 1;swing 1;block 2 3 0;spot a 1 1;spot b 5 1;spot c 2 1;";
    /** It hangs in a block at first: depth 2, where only 1 is free. */
    private static final String STUCK = "width 4;deep 2;top 1;swing 1;block 0 0 1;start 0 2;spot a 0 2;spot b 0 1;";

    private static void newObject() {
        SwingCrane x = new SwingCrane();
        int[] counts = {16, 6, 2, 4, 0, 0, 0, 0, 0, 0, 0, 0, 0};
        for (int what = 0; what < counts.length; what++) {
            due("count(" + what + ")", x.count(what), counts[what]);
        }
        dueNow(x, 0, 0, 0, 0, 1);
        due("now(8)", x.now(8), 0);
        due("gap(0, 15)", x.gap(0, 15), 6);
        due("text(1)", x.text(1), -2);
        due("back()", x.back(), -1);
        due("undo()", x.undo(), -1);
        due("NONE", SwingCrane.NONE, -1);
    }

    private static void feed() {
        SwingCrane x = new SwingCrane();
        due("feed", x.feed(0x77696474, 0x6820373B, 0x20202020, 0x20202020, 0x20202020), 20);
        due("text(8)", x.text(8), 1);
        due("count(0)", x.count(0), 7);
        for (int i = 1; i <= 35; i++) {
            due("feed " + i, x.feed(0x20202020, 0x20202020, 0x20202020, 0x20202020, 0x2020203B), 20 * i);
        }
        due("feed 36", x.feed(0, 0, 0, 0, 0), -1);
        due("count(10)", x.count(10), 700);
        due("text(700)", x.text(700), -1);
        due("fault(1): the last byte of the first twenty", x.fault(1), 19);
        due("feed", x.feed(-1, 0, 0, 0, 0), 20);
        due("text(20): a byte above 127 is no token", x.text(20), -1);
        due("fault(0)", x.fault(0), 1);
        due("fault(1)", x.fault(1), 0);
    }

    private static void text() {
        SwingCrane x = crane(HALL);
        steps(x, 7);
        x.keep();
        due("text(1)", x.text(1), -2);
        due("feed", feedAll(x, "width 9;deep 3;"), 20);
        due("text(-1)", x.text(-1), -2);
        due("text(21)", x.text(21), -2);
        due("count(10): the tape stays", x.count(10), 20);
        due("count(0)", x.count(0), 8);
        due("text(12): a number that isn't all there", x.text(12), -1);
        due("count(10): empty behind a fault", x.count(10), 0);
        due("count(7): all else stays", x.count(7), 1);
        due("undo() can be", x.count(9), 1);
        due("back() can be", x.back(), 1);
        steps(x, 4);
        feedAll(x, "width 9;deep 3;");
        due("text(8): the first LINE alone", x.text(8), 1);
        due("count(10)", x.count(10), 0);
        due("count(0)", x.count(0), 9);
        due("count(1): without its LINE", x.count(1), 6);
        int[] gone = {4, 5, 6, 7, 8, 9, 11, 12};
        for (int what : gone) {
            due("count(" + what + ")", x.count(what), 0);
        }
        due("back()", x.back(), -1);
        dueNow(x, 0, 0, 0, 0, 1);
        due("text(0)", x.text(0), 0);
        due("count(0)", x.count(0), 16);
        due("no blanks needed", tell(x, "width4;deep2;spot a1 2;\n\n wind 3-4; wind 4 -0 ;"), 5);
        due("wind(3)", x.wind(3), -4);
        due("leading zeros", tell(x, "width 0005;seed 0;start 4 6;"), 3);
        due("seed may stand ahead", tell(x, "seed 1;width 4;deep 2;seedy 1;"), -1);
        due("seed may stand ahead", tell(x, "seed 1;width 4;deep 2;"), 3);
    }

    private static void faultTokens() {
        dueFault("width", 1, 5);
        dueFault("width 4", 1, 7);
        dueFault("width 4 ", 1, 8);
        dueFault(";", 1, 0);
        dueFault("east 1;", 1, 0);
        dueFault("Width 4;", 1, 0);
        dueFault("width -4;", 1, 6);
        dueFault("width a;", 1, 6);
        dueFault("widths 4;", 1, 0);
        dueFault("width 4,", 1, 7);
        dueFault("width 4; 5", 1, 9);
        dueFault("\twidth 4;", 1, 0);
        dueFault("spot abcdefg 0 1;", 1, 5);
        dueFault("spot east 0 1;", 1, 5);
        dueFault("spot job 0 1;", 1, 5);
        dueFault("spot 1 0 1;", 1, 5);
        dueFault("spot a;", 1, 6);
        dueFault("spot a 0;", 1, 8);
        dueFault("wind 0 -;", 1, 7);
        dueFault("wind 0 - 1;", 1, 7);
        dueFault("wind -1 1;", 1, 5);
        dueFault("do run 1;", 1, 3);
        dueFault("do seed 1;", 1, 3);
        dueFault("do east;", 1, 7);
        dueFault("start 0 1;width 4;", 1, 10);
        dueFault("seed 1;block 0 1 1;swing 1;", 1, 19);
        dueFault("width 4;pile 0 1;width 4;", 1, 17);
    }

    private static void faultLimits() {
        dueFault("width 3;", 2, 6);
        dueFault("width 17;", 2, 6);
        dueFault("width 99999999999999999999;", 2, 6);
        dueFault("deep 1;", 2, 5);
        dueFault("deep 7;", 2, 5);
        dueFault("top 0;", 2, 4);
        dueFault("top 3;", 2, 4);
        dueFault("swing 0;", 2, 6);
        dueFault("swing 5;", 2, 6);
        dueFault("width 4;block 0 4 1;", 2, 16);
        dueFault("width 4;block 4 4 1;", 2, 14);
        dueFault("block 3 2 1;", 2, 8);
        dueFault("deep 2;block 0 0 3;", 2, 17);
        dueFault("spot a 16 1;", 2, 7);
        dueFault("spot a 0 0;", 2, 9);
        dueFault("spot a 0 7;", 2, 9);
        dueFault("start 16 1;", 2, 6);
        dueFault("start 0 0;", 2, 8);
        dueFault("wind 1000 0;", 2, 5);
        dueFault("wind 999 0;wind 999 0;", 2, 16);
        dueFault("wind 5 0;wind 4 0;", 2, 14);
        dueFault("wind 0 5;", 2, 7);
        dueFault("wind 0 -5;", 2, 7);
        dueFault("do east 0;", 2, 8);
        dueFault("do east 31;", 2, 8);
        dueFault("pile 0 0;", 2, 7);
        dueFault("deep 3;pile 0 4;", 2, 14);
        dueFault("job 1 1;", 2, 6);
        dueFault("job 1 16;", 2, 6);
        dueFault("seed 100000;", 2, 5);
        dueFault("block 0 0 1;".repeat(7), 2, 72);
        dueFault("spot a 0 1;spot b 0 1;spot c 0 1;spot d 0 1;spot e 0 1;spot f 0 1;spot a", 2, 66);
        dueFault("wind 0 0;wind 1 0;wind 2 0;wind 3 0;wind 4 0;wind 5 0;wind 6 0;wind 7 0;wind x", 2, 72);
        dueFault("do wait 1;".repeat(17), 2, 160);
        dueFault("pile 0 1;pile 1 1;pile 2 1;pile 3 1;pile 4 1;pile 5 1;pile 6 1;pile 7 1;pile 0", 2, 72);
        dueFault("job 0 1;".repeat(4), 2, 24);
    }

    private static void fault() {
        SwingCrane x = new SwingCrane();
        due("fault(0) at first", x.fault(0), 0);
        due("fault(1) at first", x.fault(1), -1);
        due("fault(2)", x.fault(2), -1);
        due("fault(-1)", x.fault(-1), -1);
        faultTokens();
        faultLimits();
        String[] once = {"width 4;", "deep 2;", "top 1;", "swing 1;", "start 0 1;", "seed 0;"};
        for (String line : once) {
            dueFault(line + line, 3, line.length());
        }
        dueFault("spot a 0 1;spot a 1 1;", 3, 16);
        dueFault("pile 2 1;pile 02 1;", 3, 14);
        dueFault("width 4;width 99;", 3, 8);
        tell(x, "width 99;");
        due("text(5)", x.text(5), -2);
        due("fault(0) stays by -2", x.fault(0), 2);
        tell(x, "width 4;");
        due("fault(0)", x.fault(0), 0);
        due("fault(1)", x.fault(1), -1);
    }

    private static void named() {
        SwingCrane x = crane(HALL + "spot abcdef 0 1;spot abcde 0 1;spot z 0 1;");
        String[] names = {"far", "near", "low", "abcdef", "abcde", "z"};
        for (int i = 0; i < names.length; i++) {
            due("named " + names[i], x.named(letters(names[i])), i);
        }
        due("named fa", x.named(letters("fa")), -1);
        due("named z, not highest", x.named(26), -1);
        due("named(0)", x.named(0), -1);
        due("named with bits above", x.named(letters("far") | 1 << 30), -1);
        due("named below 0", x.named(-1), -1);
    }

    private static void step() {
        SwingCrane x = crane(HALL);
        due("step(1, 0)", x.step(1, 0), 1);
        dueNow(x, 1, 1, -1, 0, 1);
        due("step(1, 1)", x.step(1, 1), 2);
        dueNow(x, 3, 2, 0, -1, 2);
        due("step(0, 0) with the wind 1", x.step(0, 0), 3);
        dueNow(x, 5, 2, 2, 0, 2);
        due("step(1, 0): too fast", x.step(1, 0), -2);
        due("count(7)", x.count(7), 3);
        due("count(9)", x.count(9), 3);
        int[][] none = {{2, 0}, {-2, 0}, {0, 2}, {0, -2}, {5, 5}, {Integer.MIN_VALUE, 0}, {0, Integer.MAX_VALUE}};
        for (int[] pair : none) {
            due("step(" + pair[0] + ", " + pair[1] + ")", x.step(pair[0], pair[1]), -1);
        }
        dueNow(x, 5, 2, 2, 0, 2);
        x = crane("wind 0 -1;");
        due("step(0, 0): the wind blows the load out", x.step(0, 0), -2);
        due("why(4): without wind it could", x.why(4), 0);
        x = crane("start 8 3;");
        steps(x, 7);
        dueNow(x, 9, 1, -1, 0, 3);
        steps(x, 4);
        dueNow(x, 10, 1, 0, -1, 3);
        steps(x, 4);
        dueNow(x, 11, 1, 1, 0, 3);
        x = crane("start 8 5;");
        steps(x, 7, 4);
        dueNow(x, 10, 1, -1, -1, 5);
        steps(x, 3);
        dueNow(x, 11, 1, 1, -1, 4);
    }

    private static void flow() {
        SwingCrane x = crane("width 8;deep 4;start 2 2;do east 1;do west 1;do lower 2;do lift 1;do wait 2;"
                + "do still 3;");
        due("flow(0)", x.flow(0), -1);
        due("flow(41)", x.flow(41), -1);
        due("flow(1)", x.flow(1), 1);
        dueNow(x, 3, 1, -1, 0, 2);
        due("flow(1)", x.flow(1), 1);
        dueNow(x, 3, 0, 2, -1, 2);
        due("flow(3)", x.flow(3), 3);
        due("now(4)", x.now(4), 3);
        due("count(6)", x.count(6), 5);
        int halt = x.halt();
        due("halt()", halt, 3);
        due("flow(2)", x.flow(2), 2);
        int left = x.halt();
        due("flow(40): to its end", x.flow(40), 3);
        due("halt() by still", x.halt(), left - 3);
        due("flow(1): at its end", x.flow(1), 0);
        due("count(6)", x.count(6), 10);
        x = crane("width 4;deep 2;do west 1;");
        due("flow(5): a step that can't be", x.flow(5), 0);
        due("count(6)", x.count(6), 0);
        x = crane("width 5;deep 2;start 1 1;wind 1 -4;do still 9;do east 2;");
        due("flow(40): the wind stops it", x.flow(40), 1);
        due("flow(40)", x.flow(40), 0);
        x = crane("do wait 30;do still 30;");
        due("flow(40)", x.flow(40), 40);
        due("flow(40)", x.flow(40), 20);
        dueNow(x, 0, 0, 0, 0, 1);
    }

    private static void now() {
        SwingCrane x = crane(HALL);
        due("now(6)", x.now(6), 1);
        steps(x, 7);
        int[] want = {1, 1, -1, 0, 1, 0, 0, 0, 0};
        for (int what = 0; what <= 8; what++) {
            due("now(" + what + ")", x.now(what), want[what]);
        }
        int[] below = {-1, -2, Integer.MIN_VALUE};
        for (int what : below) {
            due("now(" + what + ") throws", thrown(x, what), 1);
        }
        int[] above = {9, 10, Integer.MAX_VALUE};
        for (int what : above) {
            due("now(" + what + ") throws", thrown(x, what), 2);
        }
        x = crane(STUCK);
        due("now(7)", x.now(7), 6);
        due("now(6)", x.now(6), 1);
        steps(x, 3);
        due("now(7)", x.now(7), 0);
        x = crane("pile 0 5;");
        x.grab();
        due("now(8)", x.now(8), 1);
    }

    private static void grab() {
        SwingCrane x = crane("width 8;deep 3;pile 0 2;pile 3 3;pile 5 1;");
        due("grab()", x.grab(), true);
        due("now(8)", x.now(8), 1);
        due("pile(0)", x.pile(0), 1);
        due("free(0)", x.free(0), 2);
        due("grab(): it holds", x.grab(), false);
        due("pile(0)", x.pile(0), 1);
        due("count(7): no tick", x.count(7), 0);
        due("count(8): no log", x.count(8), 0);
        due("count(9)", x.count(9), 1);
        x = crane("width 8;deep 3;pile 0 2;");
        due("reach(0)", x.reach(0), 7 * 3 + 1);
        x.grab();
        due("reach(0) with a box", x.reach(0), 7 * 2 + 1);
        x.undo();
        due("reach(0) as before", x.reach(0), 7 * 3 + 1);
        x.keep();
        x.grab();
        x.back();
        due("reach(0) as before", x.reach(0), 7 * 3 + 1);
        x = crane("width 8;deep 3;pile 0 1;");
        due("grab(): not deep enough", x.grab(), false);
        steps(x, 5);
        due("grab()", x.grab(), true);
        x = crane("width 8;deep 3;start 1 3;");
        due("grab(): no box", x.grab(), false);
        x = crane("width 8;deep 3;start 1 1;pile 1 3;");
        due("grab(): it doesn't stand", x.grab(), false);
        x = crane("width 8;deep 3;top 2;start 4 2;pile 5 1;");
        steps(x, 7);
        due("grab(): not still", x.grab(), false);
        x = crane("width 8;deep 3;start 1 3;wind 0 1;pile 1 1;pile 2 1;");
        due("grab(): in the boxes", x.grab(), false);
        due("now(7)", x.now(7), 6);
    }

    private static void drop() {
        SwingCrane x = crane("width 8;deep 3;pile 0 2;");
        due("drop(): it doesn't hold", x.drop(), false);
        x.grab();
        due("drop()", x.drop(), true);
        due("pile(0)", x.pile(0), 2);
        due("now(8)", x.now(8), 0);
        due("count(9)", x.count(9), 2);
        due("count(7)", x.count(7), 0);
        x.grab();
        due("step(0, 1): the box is in the way", x.step(0, 1), -2);
        x = crane("width 8;deep 4;pile 0 2;");
        steps(x, 5);
        x.grab();
        steps(x, 3);
        due("drop(): too high", x.drop(), false);
        steps(x, 5);
        due("drop()", x.drop(), true);
        x = crane("width 8;deep 3;start 2 2;");
        due("drop(): nothing to drop, though there is room", x.drop(), false);
        x = crane("width 8;deep 3;start 2 1;pile 2 2;pile 3 1;");
        x.grab();
        due("fewest steps are those with a box", x.can() & 1 << 5, 0);
        steps(x, 7);
        due("drop(): not still", x.drop(), false);
        steps(x, 4, 4, 1);
        due("now(6)", x.now(6), 1);
        due("now(0)", x.now(0), 5);
        due("drop(): too high over no pile", x.drop(), false);
        steps(x, 5);
        due("drop()", x.drop(), true);
        due("pile(5)", x.pile(5), 1);
        due("pile(2)", x.pile(2), 1);
        due("count(12)", x.count(12), 3);
        due("reach(0) with the new piles", x.reach(0), 8 * 3 - 3);
    }

    private static void pile() {
        SwingCrane x = crane(BOXES);
        int[] want = {0, 2, 0, 0, 1, 0};
        for (int column = 0; column < 6; column++) {
            due("pile(" + column + ")", x.pile(column), want[column]);
        }
        due("pile(6)", x.pile(6), -1);
        due("pile(-1)", x.pile(-1), -1);
        due("pile(max)", x.pile(Integer.MAX_VALUE), -1);
    }

    private static void free() {
        SwingCrane x = crane("width 6;deep 5;block 1 3 4;block 2 4 2;pile 3 1;pile 4 4;pile 5 2;");
        int[] want = {5, 4, 2, 1, 0, 3};
        for (int column = 0; column < 6; column++) {
            due("free(" + column + ")", x.free(column), want[column]);
        }
        due("free(15)", crane("block 15 15 0;").free(15), 0);
        due("free(6)", x.free(6), -1);
        due("free(-1)", x.free(-1), -1);
    }

    private static void gap() {
        SwingCrane x = crane("width 6;deep 5;block 1 3 4;block 2 2 2;pile 5 4;");
        due("gap(0, 0)", x.gap(0, 0), 5);
        due("gap(0, 1)", x.gap(0, 1), 4);
        due("gap(3, 0)", x.gap(3, 0), 2);
        due("gap(0, 3)", x.gap(0, 3), 2);
        due("gap(3, 4)", x.gap(3, 4), 4);
        due("gap(4, 5)", x.gap(4, 5), 1);
        due("gap(6, 0)", x.gap(6, 0), -1);
        due("gap(0, 6)", x.gap(0, 6), -1);
        due("gap(-1, 0)", x.gap(-1, 0), -1);
        due("gap(0, -1)", x.gap(0, -1), -1);
        due("gap(9, 9)", x.gap(9, 9), -1);
    }

    private static void wind() {
        SwingCrane x = crane("wind 0 -4;wind 7 4;wind 999 1;");
        due("wind(0)", x.wind(0), -4);
        due("wind(1)", x.wind(1), 0);
        due("wind(7)", x.wind(7), 4);
        due("wind(999)", x.wind(999), 1);
        due("wind(1000)", x.wind(1000), 0);
        due("wind(-1)", x.wind(-1), 0);
        due("wind(min)", x.wind(Integer.MIN_VALUE), 0);
    }

    private static void why() {
        SwingCrane x = new SwingCrane();
        int[] corner = {1, 1, 1, 3, 0, 0, 3, 0, 0};
        for (int code = 0; code < 9; code++) {
            due("why(" + code + ")", x.why(code), corner[code]);
        }
        due("why(9)", x.why(9), -1);
        due("why(-1)", x.why(-1), -1);
        x = crane("top 1;swing 1;start 3 1;");
        steps(x, 7);
        due("why(7): too fast", x.why(7), 2);
        due("why(1): too much sway", x.why(1), 4);
        x = crane("width 4;top 1;start 3 1;");
        due("why(1): the load stays in its column", x.why(1), 0);
        x = crane("width 4;start 1 1;");
        steps(x, 1);
        due("why(4): it rolls out", x.why(4), 1);
        x = crane("width 6;start 4 1;");
        steps(x, 7);
        due("why(1): the load is out", x.why(1), 5);
        x = crane("width 6;deep 4;start 2 2;block 1 1 1;");
        due("why(5)", x.why(5), 0);
        due("why(1): the load stays over its own column", x.why(1), 0);
        x = crane("width 6;deep 4;start 1 2;block 1 1 2;");
        due("why(5): deeper than free", x.why(5), 6);
        due("why(7): the load stays in its column", x.why(7), 0);
        due("why(8): there too deep", x.why(8), 6);
        ropeOverBlocks();
    }

    /** Column 9, sway 3 at depth 4: the rope passes 2, 3 and 4 deep. */
    private static void ropeOverBlocks() {
        int[][] freeToWhy = {{1, 6}, {2, 0}, {3, 0}};
        for (int[] pair : freeToWhy) {
            SwingCrane x = crane("width 16;deep 4;start 6 4;wind 0 3;block 7 7 " + pair[0] + ";");
            due("step(0, 0) over a block free to " + pair[0], x.step(0, 0), pair[1] == 6 ? -2 : 1);
        }
        for (int free = 2; free <= 3; free++) {
            SwingCrane x = crane("width 16;deep 4;start 6 4;wind 0 3;block 8 8 " + free + ";");
            due("step(0, 0) over a block free to " + free, x.step(0, 0), free == 2 ? -2 : 1);
            x = crane("width 16;deep 4;start 9 4;wind 0 -3;block 7 7 " + free + ";");
            due("step(0, 0) over a block free to " + free, x.step(0, 0), free == 2 ? -2 : 1);
        }
    }

    private static void can() {
        SwingCrane x = new SwingCrane();
        due("can()", x.can(), 432);
        x = crane("start 8 3;wind 0 4;");
        due("can(): all", x.can(), 511);
        x = crane(STUCK);
        due("can() from what doesn't stand", x.can(), 1 << 3 | 1 << 6);
        x = crane("width 4;deep 2;pile 0 1;start 0 1;block 1 3 1;");
        x.grab();
        due("can() with a box", x.can(), 1 << 4 | 1 << 7);
    }

    private static void sway() {
        SwingCrane x = crane("start 8 1;");
        steps(x, 7);
        int[] shallow = {-1, 1, 0, -1, 1, 0};
        for (int n = 0; n < shallow.length; n++) {
            due("sway(" + n + ")", x.sway(n), shallow[n]);
        }
        x = crane("start 8 3;");
        steps(x, 7);
        int[] middle = {-1, 0, 1, 0, -1, 0};
        for (int n = 0; n < middle.length; n++) {
            due("sway(" + n + ")", x.sway(n), middle[n]);
        }
        x = crane("start 8 6;wind 1 2;");
        steps(x, 7);
        int[] deep = {-1, -1, 0, 1, 1, 0, -1};
        for (int n = 0; n < deep.length; n++) {
            due("sway(" + n + ")", x.sway(n), deep[n]);
        }
        due("sway(60): whatever stands", x.sway(60), -1);
        due("sway(61)", x.sway(61), -100);
        due("sway(-1)", x.sway(-1), -100);
    }

    private static void drift() {
        due("drift()", new SwingCrane().drift(), 60);
        SwingCrane x = crane("start 8 1;");
        steps(x, 7);
        due("drift(): to the end of the columns", x.drift(), 6);
        x = crane("start 8 1;wind 3 4;wind 4 -4;");
        due("drift(): 4 less than -4", x.drift(), 4);
        steps(x, 4);
        due("drift()", x.drift(), 3);
        x = crane(STUCK);
        due("drift() in a block", x.drift(), 0);
        due("drift() in the hall", crane(HALL).drift(), 3);
    }

    private static void fewest() {
        SwingCrane x = crane(HALL);
        due("fewest(0)", x.fewest(0), 8);
        due("fewest(1)", x.fewest(1), 4);
        due("fewest(2)", x.fewest(2), 7);
        due("fewest(3)", x.fewest(3), -1);
        due("fewest(-1)", x.fewest(-1), -1);
        steps(x, 7, 8);
        due("fewest(0)", x.fewest(0), 6);
        due("fewest(1)", x.fewest(1), 5);
        due("fewest(2)", x.fewest(2), 5);
        x = crane(WALL);
        due("fewest(1): behind the wall", x.fewest(1), -2);
        due("fewest(2): in the wall", x.fewest(2), -2);
        x = crane(STUCK);
        due("fewest(0): it doesn't stand there", x.fewest(0), -2);
        due("fewest(1): no way from what doesn't stand", x.fewest(1), -2);
        steps(x, 3);
        due("fewest(1)", x.fewest(1), 0);
    }

    private static void dueWay(SwingCrane x, int spot, int... codes) {
        for (int k = 0; k < codes.length; k++) {
            due("by(" + spot + ", " + k + ")", x.by(spot, k), codes[k]);
        }
        due("by behind the last", x.by(spot, codes.length), -2);
    }

    private static void by() {
        SwingCrane x = crane(HALL);
        dueWay(x, 0, 7, 4, 8, 2, 3, 5, 0, 3);
        dueWay(x, 1, 8, 2, 7, 1);
        dueWay(x, 2, 7, 4, 4, 5, 2, 7, 2);
        due("by(0, -1)", x.by(0, -1), -1);
        due("by(3, 0)", x.by(3, 0), -1);
        due("by(-1, 0)", x.by(-1, 0), -1);
        due("by(0, max)", x.by(0, Integer.MAX_VALUE), -2);
        steps(x, 7);
        dueWay(x, 1, 1, 4, 5, 5, 7, 1);
        due("by(1, 0): no way", crane(WALL).by(1, 0), -2);
        due("by(1, -1)", crane(WALL).by(1, -1), -1);
    }

    private static void halt() {
        SwingCrane x = crane(HALL);
        due("halt()", x.halt(), 0);
        steps(x, 7);
        due("halt()", x.halt(), 3);
        x = crane("width 5;deep 2;start 1 2;");
        steps(x, 7);
        due("halt(): at the deepest", x.halt(), 3);
        due("halt() of what doesn't stand", crane(STUCK).halt(), -2);
        x = crane("width 4;deep 2;top 1;swing 1;");
        steps(x, 7, 4);
        due("halt()", x.halt(), 2);
        x = crane("width 4;deep 2;top 2;swing 4;");
        steps(x, 7, 7);
        due("now(0)", x.now(0), 3);
        due("halt(): too fast at the end", x.halt(), -2);
    }

    private static void rests() {
        SwingCrane x = crane(HALL);
        due("rests(0)", x.rests(0), 0);
        due("rests(1)", x.rests(1), 1);
        steps(x, 7);
        due("rests(0)", x.rests(0), 3);
        due("rests(1)", x.rests(1), 1);
        steps(x, 8);
        due("rests(0)", x.rests(0), 6);
        due("rests(1)", x.rests(1), 1);
        x = crane("width 9;deep 5;start 6 5;");
        steps(x, 7);
        due("halt() by 0, 6, 0", x.halt(), 3);
        due("rests(0)", x.rests(0), 8);
        due("rests(1)", x.rests(1), 2);
        due("rests(2)", x.rests(2), -1);
        due("rests(-1)", x.rests(-1), -1);
        due("rests(0): no way", crane(STUCK).rests(0), -2);
        due("rests(2) goes ahead", crane(STUCK).rests(2), -1);
    }

    private static void between() {
        SwingCrane x = crane(HALL);
        int[] want = {0, 7, 4, 8, 0, 5, 5, 4, 0};
        for (int i = 0; i < 9; i++) {
            due("between(" + i / 3 + ", " + i % 3 + ")", x.between(i / 3, i % 3), want[i]);
        }
        due("between(3, 0)", x.between(3, 0), -1);
        due("between(0, -1)", x.between(0, -1), -1);
        x = crane(WALL);
        due("between(0, 1)", x.between(0, 1), -2);
        due("between(2, 0)", x.between(2, 0), -2);
        due("between(2, 2): it doesn't stand", x.between(2, 2), 0);
        x = crane("spot a 3 3;spot b 3 3;");
        due("between(0, 1): the same place", x.between(0, 1), 0);
        x = crane("block 3 3 1;spot a 3 3;spot b 3 3;");
        due("between(0, 1): the same place, in a block", x.between(0, 1), -2);
    }

    private static void tour() {
        due("tour()", crane(HALL).tour(), 14);
        due("tour() without spots", new SwingCrane().tour(), 0);
        due("tour(): a wall", crane(WALL).tour(), -2);
        due("tour() without spots, in a block", crane("block 0 0 0;").tour(), 0);
        SwingCrane x = crane(HALL);
        steps(x, 7);
        due("tour()", x.tour(), 15);
        steps(x, 8);
        due("tour()", x.tour(), 14);
    }

    private static void stop() {
        SwingCrane x = crane(HALL);
        int[] first = {1, 2, 0};
        int[] second = {0, 2, 1};
        for (int i = 0; i < 3; i++) {
            due("stop(" + i + ")", x.stop(i), first[i]);
        }
        steps(x, 7);
        for (int i = 0; i < 3; i++) {
            due("stop(" + i + ")", x.stop(i), second[i]);
        }
        due("stop(3)", x.stop(3), -1);
        due("stop(-1)", x.stop(-1), -1);
        due("stop(0): a wall", crane(WALL).stop(0), -2);
        due("stop(3): a wall", crane(WALL).stop(3), -1);
        x = crane("spot a 0 1;spot b 0 1;");
        due("tour(): it is there", x.tour(), 0);
        due("stop(0)", x.stop(0), 0);
        due("stop(1)", x.stop(1), 1);
        x = crane("spot a 5 1;spot b 5 1;spot c 5 1;");
        for (int i = 0; i < 3; i++) {
            due("stop(" + i + "): the first by numbers", x.stop(i), i);
        }
    }

    private static void carry() {
        SwingCrane x = crane("width 4;deep 2;top 1;swing 1;pile 0 1;");
        due("carry(0, 3)", x.carry(0, 3), 4);
        due("carry(0, 1): no way", x.carry(0, 1), -2);
        due("carry(1, 0): no box", x.carry(1, 0), -2);
        due("carry(0, 0)", x.carry(0, 0), -1);
        due("carry(0, 4)", x.carry(0, 4), -1);
        due("carry(-1, 0)", x.carry(-1, 0), -1);
        x.grab();
        due("carry(0, 3): it holds", x.carry(0, 3), -3);
        due("carry(0, 0) goes ahead", x.carry(0, 0), -1);
        due("carry(0, 3): no room", crane("width 4;deep 2;top 1;swing 1;pile 0 1;pile 3 1;").carry(0, 3), -2);
        x = crane(BOXES);
        due("carry(1, 3)", x.carry(1, 3), PlainAnswers.carry(BOXES, 1, 3));
        due("carry(4, 1)", x.carry(4, 1), PlainAnswers.carry(BOXES, 4, 1));
        due("carry(4, 5)", x.carry(4, 5), PlainAnswers.carry(BOXES, 4, 5));
        due("carry(1, 4): a box too deep to grab", crane("deep 3;pile 1 3;").carry(1, 4), -2);
    }

    private static void jobs() {
        SwingCrane x = crane(BOXES);
        due("jobs()", x.jobs(), 19);
        due("jobs() without", new SwingCrane().jobs(), 0);
        due("jobs() without, in a block", crane("block 0 0 0;").jobs(), 0);
        due("jobs(): no box", crane("job 1 2;").jobs(), -2);
        due("jobs(): one box twice", crane("pile 1 1;job 1 2;job 1 3;").jobs(), -2);
        x = crane("pile 0 5;");
        x.grab();
        due("jobs() without, holding", x.jobs(), -3);
        x = crane("width 4;deep 2;top 1;swing 1;pile 0 1;job 0 3;");
        due("jobs()", x.jobs(), 4);
        x.grab();
        due("jobs()", x.jobs(), -3);
        x.undo();
        due("jobs()", x.jobs(), 4);
    }

    private static void job() {
        SwingCrane x = crane(BOXES);
        int[] want = {1, 0, 2};
        for (int i = 0; i < 3; i++) {
            due("job(" + i + ")", x.job(i), want[i]);
        }
        due("job(3)", x.job(3), -1);
        due("job(-1)", x.job(-1), -1);
        x = crane("pile 0 5;pile 3 1;job 3 0;");
        due("job(0): no room", x.job(0), -2);
        due("job(1)", x.job(1), -1);
        x.grab();
        due("job(0): it holds", x.job(0), -3);
        due("job(1)", x.job(1), -1);
        x = crane("width 4;deep 3;top 1;swing 1;pile 0 1;job 0 3;job 3 0;");
        due("job(0)", x.job(0), 0);
        due("job(1)", x.job(1), 1);
        x = crane("width 4;deep 3;top 1;swing 1;pile 0 1;job 3 0;job 0 3;");
        due("job(0): the box must be there first", x.job(0), 1);
        due("job(1)", x.job(1), 0);
        x = crane("pile 0 2;pile 9 1;job 0 9;job 0 9;");
        due("job(0): of equal ones the first", x.job(0), 0);
    }

    private static void ifPile() {
        SwingCrane x = crane(HALL);
        due("ifPile(5, 2): no room at the spot", x.ifPile(5, 2), -2);
        due("ifPile(4, 2)", x.ifPile(4, 2), 7);
        due("ifPile(0, 0)", x.ifPile(0, 0), 8);
        steps(x, 7, 8);
        due("ifPile(3, 0): now doesn't stand then", x.ifPile(3, 0), -2);
        due("ifPile(4, 0): a longer way", x.ifPile(4, 0), 8);
        due("fewest(0) as before", x.fewest(0), 6);
        due("pile(4) as before", x.pile(4), 0);
        due("ifPile(8, 0)", x.ifPile(8, 0), -1);
        due("ifPile(-1, 0)", x.ifPile(-1, 0), -1);
        due("ifPile(0, 3)", x.ifPile(0, 3), -1);
        due("ifPile(0, -1)", x.ifPile(0, -1), -1);
        x = crane("pile 0 5;spot a 3 1;");
        due("ifPile(0, 0): none free", x.ifPile(0, 0), -2);
        x.grab();
        due("ifPile(0, 0) with a box", x.ifPile(0, 0), -2);
        due("ifPile(9, 0)", x.ifPile(9, 0), 4);
    }

    private static void reach() {
        SwingCrane x = new SwingCrane();
        due("reach(0)", x.reach(0), 96);
        due("reach(1)", x.reach(1), 96);
        due("reach(2)", x.reach(2), 10);
        x = crane(WALL);
        due("reach(0)", x.reach(0), 8);
        due("reach(1)", x.reach(1), 2);
        due("reach(2)", x.reach(2), 1);
        x = crane(STUCK);
        due("reach(0)", x.reach(0), 7);
        due("reach(1)", x.reach(1), 0);
        due("reach(2)", x.reach(2), -2);
        due("reach(3)", x.reach(3), -1);
        due("reach(-1)", x.reach(-1), -1);
    }

    private static void safe() {
        SwingCrane x = new SwingCrane();
        due("safe(0)", x.safe(0), 27112);
        due("safe(1)", x.safe(1), 6368);
        x = crane(HALL);
        due("safe(0)", x.safe(0), 3274);
        due("safe(1)", x.safe(1), 1836);
        steps(x, 7);
        due("safe(0)", x.safe(0), 3274);
        due("safe(2)", x.safe(2), -1);
        due("safe(-1)", x.safe(-1), -1);
        x = crane("width 4;deep 2;block 0 3 0;");
        due("safe(0): none stands", x.safe(0), 0);
        due("safe(1)", x.safe(1), 0);
    }

    private static void bears() {
        SwingCrane x = crane(HALL);
        due("bears()", x.bears(), 0);
        steps(x, 7);
        due("bears()", x.bears(), 2);
        steps(x, 8);
        due("bears()", x.bears(), 1);
        due("bears(): it doesn't stand", crane(STUCK).bears(), -2);
        due("bears() in the middle", crane("start 8 1;").bears(), 4);
        x = crane("width 4;deep 2;top 2;swing 4;");
        steps(x, 7, 7);
        due("bears(): not even 0", x.bears(), -2);
    }

    private static void pulses() {
        SwingCrane x = crane("width 4;deep 2;top 1;swing 1;block 0 3 0;");
        due("pulses(1, 0, 0)", x.pulses(1, 0, 0), 1);
        due("pulses(1, 0, 1)", x.pulses(1, 0, 1), 0);
        due("pulses(1, 3, 3)", x.pulses(1, 3, 3), 1);
        due("pulses(2, 3, -3)", x.pulses(2, 3, -3), 1);
        due("pulses(3, 3, 2)", x.pulses(3, 3, 2), 1);
        due("pulses(5, 3, 1)", x.pulses(5, 3, 1), 1);
        due("pulses(6, 4, 0)", x.pulses(6, 4, 0), PlainAnswers.pulses(6, 4, 0));
        for (int depth = 1; depth <= 6; depth++) {
            for (int d = -8; d <= 8; d++) {
                due("pulses(" + depth + ", 8, " + d + ")", x.pulses(depth, 8, d), PlainAnswers.pulses(depth, 8, d));
            }
        }
        int[][] none = {{0, 0, 0}, {7, 0, 0}, {1, -1, 0}, {1, 9, 0}, {1, 0, 9}, {1, 0, -9}};
        for (int[] wrongOnes : none) {
            due("pulses", x.pulses(wrongOnes[0], wrongOnes[1], wrongOnes[2]), -1);
        }
    }

    private static void shortest() {
        SwingCrane x = new SwingCrane();
        due("shortest(1, 3)", x.shortest(1, 3), 3);
        due("shortest(1, 1)", x.shortest(1, 1), -2);
        due("shortest(3, 2)", x.shortest(3, 2), 3);
        due("shortest(5, 1)", x.shortest(5, 1), 3);
        due("shortest(5, -1)", x.shortest(5, -1), 3);
        for (int depth = 1; depth <= 6; depth++) {
            for (int d = 1; d <= 8; d++) {
                due("shortest(" + depth + ", " + d + ")", x.shortest(depth, d), PlainAnswers.shortest(depth, d));
            }
        }
        due("shortest(1, 0)", x.shortest(1, 0), -1);
        due("shortest(0, 1)", x.shortest(0, 1), -1);
        due("shortest(7, 1)", x.shortest(7, 1), -1);
        due("shortest(1, 9)", x.shortest(1, 9), -1);
        due("shortest(1, -9)", x.shortest(1, -9), -1);
    }

    private static void level() {
        SwingCrane x = crane("width 8;deep 4;spot a 3 1;spot b 3 2;spot c 0 1;");
        due("level(0)", x.level(0), 4);
        due("level(1)", x.level(1), -2);
        due("level(2)", x.level(2), 0);
        due("level(3)", x.level(3), -1);
        due("level(-1)", x.level(-1), -1);
        x = crane("width 8;deep 4;start 0 3;spot a 6 3;");
        due("fewest(0)", x.fewest(0), PlainAnswers.fewest("width 8;deep 4;start 0 3;spot a 6 3;", 0));
        due("level(0)", x.level(0), PlainAnswers.level("width 8;deep 4;start 0 3;spot a 6 3;", 0));
        due("level(1): it doesn't stand", crane(STUCK).level(1), -2);
    }

    private static void ifWind() {
        SwingCrane x = crane(HALL);
        due("ifWind(0, 0)", x.ifWind(0, 0), 8);
        due("ifWind(0, -1): the load is out", x.ifWind(0, -1), -2);
        steps(x, 7);
        int[][] want = {{7, 6, 8}, {6, 6, 6}, {5, 5, 6}};
        for (int spot = 0; spot < 3; spot++) {
            for (int w = -1; w <= 1; w++) {
                due("ifWind(" + spot + ", " + w + ")", x.ifWind(spot, w), want[spot][w + 1]);
            }
        }
        due("ifWind(0, 8)", x.ifWind(0, 8), -2);
        due("ifWind(0, -8)", x.ifWind(0, -8), -2);
        due("ifWind(0, 9)", x.ifWind(0, 9), -1);
        due("ifWind(0, -9)", x.ifWind(0, -9), -1);
        due("ifWind(3, 0)", x.ifWind(3, 0), -1);
        due("ifWind(-1, 0)", x.ifWind(-1, 0), -1);
        due("count(7)", x.count(7), 1);
        due("ifWind(1, 0): no way", crane(WALL).ifWind(1, 0), -2);
    }

    private static void nearest() {
        due("nearest()", crane(HALL).nearest(), 1);
        due("nearest(): the first", crane("spot a 9 1;spot b 3 1;spot c 3 1;").nearest(), 1);
        due("nearest() without spots", new SwingCrane().nearest(), -2);
        due("nearest(): no way", crane(STUCK).nearest(), -2);
        due("nearest(): over the wall there is none", crane(WALL).nearest(), -2);
        due("nearest()", crane("start 3 1;spot a 2 1;spot b 3 1;").nearest(), 1);
        due("nearest()", crane("start 3 1;spot a 3 1;spot b 2 1;").nearest(), 0);
    }

    private static void least() {
        SwingCrane x = crane(HALL);
        int[] want = {6, 6, 7};
        for (int spot = 0; spot < 3; spot++) {
            due("least(" + spot + ")", x.least(spot), want[spot]);
        }
        steps(x, 7);
        int[] then = {5, 5, 6};
        for (int spot = 0; spot < 3; spot++) {
            due("least(" + spot + ")", x.least(spot), then[spot]);
        }
        due("least(3)", x.least(3), -1);
        due("least(-1)", x.least(-1), -1);
        due("least(1): no way", crane(WALL).least(1), -2);
        due("least(1): it doesn't stand", crane(STUCK).least(1), -2);
        due("least(0): it is there", crane("spot a 0 1;").least(0), 0);
        x = crane("spot a 3 1;");
        steps(x, 7);
        due("least(0): it rolls there", x.least(0), 1);
        due("least(0): both in one step",
                crane("width 4;deep 5;top 2;swing 1;start 1 2;block 1 2 3;spot a 0 2;").least(0), 6);
        due("least(0): only so",
                crane("width 5;deep 3;top 2;swing 2;start 3 2;block 1 3 2;spot a 1 2;").least(0), 10);
        due("least(0): two for four steps", crane("spot a 3 1;").least(0), 2);
    }

    private static void steadiest() {
        SwingCrane x = crane(HALL);
        for (int spot = 0; spot < 3; spot++) {
            due("steadiest(" + spot + ")", x.steadiest(spot), 1);
        }
        due("steadiest(3)", x.steadiest(3), -1);
        due("steadiest(-1)", x.steadiest(-1), -1);
        due("steadiest(1): no way", crane(WALL).steadiest(1), -2);
        x = crane("width 6;deep 4;spot a 0 1;spot b 0 4;");
        due("steadiest(0): it is there", x.steadiest(0), 0);
        due("steadiest(1): straight down", x.steadiest(1), 0);
        x = crane("width 9;deep 2;start 4 1;wind 0 4;spot a 4 1;");
        steps(x, 4);
        due("steadiest(0): what now sways is not counted", x.steadiest(0),
                PlainAnswers.steadiestBehindStep("width 9;deep 2;start 4 1;wind 0 4;spot a 4 1;", 0));
        due("steadiest(1): it doesn't stand", crane(STUCK).steadiest(1), -2);
    }

    private static void along() {
        SwingCrane x = crane(HALL);
        int[][] want = {{1, 2, 4, 6, 0}, {1, 1, 4, 2, 1}, {1, 1, 4, 3, 0}};
        for (int spot = 0; spot < 3; spot++) {
            for (int what = 0; what <= 4; what++) {
                due("along(" + spot + ", " + what + ")", x.along(spot, what), want[spot][what]);
            }
        }
        due("along(0, 5)", x.along(0, 5), -99);
        due("along(0, -1)", x.along(0, -1), -99);
        due("along(3, 0)", x.along(3, 0), -99);
        due("along(-1, 0)", x.along(-1, 0), -99);
        due("along(1, 0): no way", crane(WALL).along(1, 0), -2);
        due("along(1, 5): no way", crane(WALL).along(1, 5), -99);
        x = crane("width 8;deep 5;start 3 2;spot a 3 2;");
        int[] here = {0, 0, 0, 0, 3};
        for (int what = 0; what <= 4; what++) {
            due("along(0, " + what + ") without steps", x.along(0, what), here[what]);
        }
    }

    private static void log() {
        SwingCrane x = crane("start 8 2;");
        steps(x, 7, 3, 5, 2, 6);
        String letters = "enNWe";
        int[] lifted = {0, 1, 0, 0, 1};
        for (int k = 0; k < 5; k++) {
            due("log(" + k + ", 0)", x.log(k, 0), letters.charAt(4 - k));
            due("log(" + k + ", 1)", x.log(k, 1), lifted[4 - k]);
            due("log(" + k + ", 2)", x.log(k, 2), 4 - k);
        }
        due("log(5, 0)", x.log(5, 0), -1);
        due("log(-1, 0)", x.log(-1, 0), -1);
        due("log(0, 3)", x.log(0, 3), -1);
        due("log(0, -1)", x.log(0, -1), -1);
        x = crane("deep 4;");
        for (int i = 0; i < 45; i++) {
            steps(x, i == 4 ? 5 : 4);
        }
        due("log(39, 2): 40 are kept", x.log(39, 2), 5);
        due("log(40, 2)", x.log(40, 2), -1);
        due("count(8)", x.count(8), 40);
        x.undo();
        due("log(0, 2)", x.log(0, 2), 43);
        due("log(39, 0): as it was ahead of that tick", x.log(39, 0), 'N');
        due("count(8)", x.count(8), 40);
        logOfManyTicks();
    }

    /** Lower, lift, and so on: a letter tells whether its tick was even. */
    private static void logOfManyTicks() {
        SwingCrane x = new SwingCrane();
        for (int i = 0; i < 75; i++) {
            steps(x, i % 2 == 0 ? 5 : 3);
        }
        for (int undone = 0; undone <= 30; undone++) {
            for (int k = 0; k < 40; k++) {
                int tick = 74 - undone - k;
                due("log(" + k + ", 2)", x.log(k, 2), tick);
                due("log(" + k + ", 0)", x.log(k, 0), tick % 2 == 0 ? 'N' : 'n');
                due("log(" + k + ", 1)", x.log(k, 1), tick % 2);
            }
            x.undo();
        }
    }

    private static void again() {
        SwingCrane x = crane("start 8 1;");
        due("again()", x.again(), 0);
        steps(x, 7);
        due("again()", x.again(), 0);
        steps(x, 1, 7, 1);
        due("again(): ewew", x.again(), 2);
        steps(x, 5);
        due("again(): capitals are others", x.again(), 0);
        steps(x, 4);
        due("again(): Nn", x.again(), 0);
        steps(x, 3);
        due("again(): nn, though one was lifted", x.again(), 1);
        x = new SwingCrane();
        for (int i = 0; i < 41; i++) {
            steps(x, 4);
        }
        due("again(): half of what is kept", x.again(), 20);
        x = crane("start 8 1;do wait 3;do lower 1;do wait 3;do lift 1;");
        x.flow(3);
        due("again(): nnn", x.again(), 1);
        x.flow(5);
        due("again(): nnnNnnnn", x.again(), 2);
    }

    private static void chance() {
        SwingCrane x = crane("width 12;deep 6;start 6 3;seed 17;");
        for (int n = 1; n <= 60; n++) {
            for (int what = 0; what <= 2; what++) {
                due("chance(-1, " + n + ", " + what + ")", x.chance(-1, n, what), x.chance(17, n, what));
                due("chance(17, " + n + ", " + what + ")", x.chance(17, n, what),
                        PlainAnswers.chance("width 12;deep 6;start 6 3;seed 17;", 17, n, what));
            }
        }
        due("chance(max, 60, 0)", x.chance(Integer.MAX_VALUE, 60, 0),
                PlainAnswers.chance("width 12;deep 6;start 6 3;", Integer.MAX_VALUE, 60, 0));
        due("chance(-2, 1, 0)", x.chance(-2, 1, 0), -1);
        due("chance(0, 0, 0)", x.chance(0, 0, 0), -1);
        due("chance(0, 61, 0)", x.chance(0, 61, 0), -1);
        due("chance(0, 1, 3)", x.chance(0, 1, 3), -1);
        due("chance(0, 1, -1)", x.chance(0, 1, -1), -1);
        boolean other = false;
        for (int n = 1; n <= 60; n++) {
            other = other || x.chance(0, n, 2) != x.chance(-1, n, 2);
        }
        due("chance(0, ..) is not that of the seed", other, true);
        x = crane("width 12;deep 6;start 6 3;");
        for (int n = 1; n <= 60; n++) {
            due("chance(-1, " + n + ", 2) without a seed", x.chance(-1, n, 2), x.chance(0, n, 2));
        }
        due("count(7): nothing has changed", x.count(7), 0);
        dueNow(x, 6, 0, 0, 0, 3);
        x = crane(STUCK);
        due("chance(0, 5, 0): it can't be", x.chance(0, 5, 0), 0);
        due("chance(0, 5, 1)", x.chance(0, 5, 1), 1);
        due("chance(0, 5, 2)", x.chance(0, 5, 2), 0);
    }

    private static void undo() {
        SwingCrane x = crane("width 8;deep 3;pile 0 2;do east 1;do wait 2;do west 1;");
        x.grab();
        due("flow(4)", x.flow(4), 4);
        due("undo()", x.undo(), 4);
        due("count(6)", x.count(6), 3);
        due("count(7)", x.count(7), 3);
        due("count(8)", x.count(8), 3);
        dueNow(x, 3, 1, 0, 1, 1);
        due("undo()", x.undo(), 3);
        due("undo()", x.undo(), 2);
        due("undo()", x.undo(), 1);
        due("now(8)", x.now(8), 1);
        due("undo() of the grab", x.undo(), 0);
        due("now(8)", x.now(8), 0);
        due("pile(0)", x.pile(0), 2);
        due("undo()", x.undo(), -1);
        x.grab();
        x.drop();
        due("undo() of the drop", x.undo(), 1);
        due("now(8)", x.now(8), 1);
        due("pile(0)", x.pile(0), 1);
        x = new SwingCrane();
        for (int i = 0; i < 35; i++) {
            steps(x, 4);
        }
        due("count(9)", x.count(9), 30);
        for (int left = 29; left >= 0; left--) {
            due("undo()", x.undo(), left);
        }
        due("undo(): 30 at most", x.undo(), -1);
        due("count(7)", x.count(7), 5);
        x.step(9, 9);
        due("a refused step isn't undone", x.undo(), -1);
        x = crane(HALL);
        due("fewest(0)", x.fewest(0), 8);
        steps(x, 7);
        due("fewest(0)", x.fewest(0), 7);
        x.undo();
        due("fewest(0) as before", x.fewest(0), 8);
        due("by(0, 0) as before", x.by(0, 0), 7);
    }

    private static void keep() {
        SwingCrane x = crane(HALL);
        due("keep()", x.keep(), 0);
        steps(x, 7, 8);
        due("keep()", x.keep(), 2);
        due("count(9): nothing else changes", x.count(9), 2);
        steps(x, 1);
        due("back(): to the latest image", x.back(), 2);
        dueNow(x, 3, 2, 0, -1, 2);
    }

    private static void back() {
        SwingCrane x = crane("width 8;deep 3;pile 0 2;do east 1;do wait 2;do west 1;");
        due("back()", x.back(), -1);
        x.flow(4);
        steps(x, 4);
        due("keep()", x.keep(), 5);
        steps(x, 3 + 2);
        steps(x, 3);
        x.undo();
        due("back()", x.back(), 5);
        dueNow(x, 3, 0, 0, 0, 1);
        due("count(6)", x.count(6), 4);
        due("count(8)", x.count(8), 5);
        due("log(1, 0)", x.log(1, 0), 'w');
        due("undo(): nothing then", x.undo(), -1);
        steps(x, 4);
        due("back(): the image stays", x.back(), 5);
        steps(x, 5);
        x.keep();
        x.undo();
        steps(x, 4);
        due("back()", x.back(), 6);
        due("log(0, 0): that of the image", x.log(0, 0), 'N');
        x = crane("width 8;deep 3;pile 0 2;");
        x.keep();
        x.grab();
        due("back()", x.back(), 0);
        due("pile(0)", x.pile(0), 2);
        due("now(8)", x.now(8), 0);
        x.grab();
        x.keep();
        x.drop();
        due("back()", x.back(), 0);
        due("pile(0)", x.pile(0), 1);
        due("now(8)", x.now(8), 1);
        due("fewest steps are those of the image", x.carry(0, 3), -3);
    }

    private static void count() {
        SwingCrane x = crane(HALL + "pile 6 2;pile 7 1;job 6 7;");
        x.flow(2);
        steps(x, 4);
        feedAll(x, "width 9;");
        int[] want = {8, 4, 2, 3, 3, 4, 2, 3, 3, 3, 20, 1, 3};
        for (int what = 0; what < want.length; what++) {
            due("count(" + what + ")", x.count(what), want[what]);
        }
        due("count(13)", x.count(13), -1);
        due("count(-1)", x.count(-1), -1);
        x = crane("pile 0 5;");
        x.grab();
        due("count(12): what it holds is on no pile", x.count(12), 4);
    }

    private static void runAll(int number) {
        promise = number;
        switch (number) {
            case 1 -> newObject();
            case 2 -> feed();
            case 3 -> text();
            case 4 -> fault();
            case 5 -> named();
            case 6 -> step();
            case 7 -> flow();
            case 8 -> now();
            case 9 -> grab();
            case 10 -> drop();
            case 11 -> pile();
            case 12 -> free();
            case 13 -> gap();
            case 14 -> wind();
            case 15 -> why();
            case 16 -> can();
            case 17 -> sway();
            case 18 -> drift();
            case 19 -> fewest();
            case 20 -> by();
            case 21 -> halt();
            case 22 -> rests();
            case 23 -> between();
            case 24 -> tour();
            case 25 -> stop();
            case 26 -> carry();
            case 27 -> jobs();
            case 28 -> job();
            case 29 -> ifPile();
            case 30 -> reach();
            case 31 -> safe();
            case 32 -> bears();
            case 33 -> pulses();
            case 34 -> shortest();
            case 35 -> level();
            case 36 -> ifWind();
            case 37 -> nearest();
            case 38 -> least();
            case 39 -> steadiest();
            case 40 -> along();
            case 41 -> log();
            case 42 -> again();
            case 43 -> chance();
            case 44 -> undo();
            case 45 -> keep();
            case 46 -> back();
            default -> count();
        }
    }

    public static void main(String[] args) {
        for (int number = 1; number <= 47; number++) {
            runAll(number);
        }
        System.out.println(wrong == 0 ? "all 47 promises are as due" : wrong + " answers are not as due");
        if (wrong != 0) {
            System.exit(1);
        }
    }
}
