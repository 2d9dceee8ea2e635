/** The edges of steps, ticks, the flow, boxes and what can be asked of them: promises 6 to 18. */
final class StepEdges extends Edges {
    private static final int[] FAR = {Integer.MIN_VALUE, Integer.MAX_VALUE};
    /** Behind a push east there is no way to any rest, though it can go on by nothing and by a push west. */
    static final String DOOMED = "width 5;deep 5;top 1;swing 3;start 1 5;block 3 4 1;spot a 0 1;";

    private StepEdges() {
    }

    private static void stepArguments() {
        sentence(6, "NONE: no such ones");
        SwingCrane x = crane("start 8 3;");
        int[] none = {-2, 2, Integer.MIN_VALUE, Integer.MAX_VALUE};
        for (int n : none) {
            stays(x, "step(" + n + ", 0)", () -> x.step(n, 0), -1);
            stays(x, "step(0, " + n + ")", () -> x.step(0, n), -1);
            stays(x, "step(" + n + ", " + n + ")", () -> x.step(n, n), -1);
        }
        int tick = 0;
        for (int a = -1; a <= 1; a++) {
            for (int u = -1; u <= 1; u++) {
                SwingCrane y = crane("start 8 3;");
                at("step(" + a + ", " + u + ")", y.step(a, u), 1);
                at("now(1)", y.now(1), a);
                at("now(4)", y.now(4), 3 + u);
                tick++;
            }
        }
        at("codes", tick, 9);
        sentence(6, "-2 or NONE: NONE goes first");
        SwingCrane z = crane("width 4;deep 2;block 0 3 0;");
        stays(z, "step(0, 0)", () -> z.step(0, 0), -2);
        stays(z, "step(0, 2)", () -> z.step(0, 2), -1);
    }

    /** The last step of these can be, and then one more of its kind can't. */
    private static void lastOne(String text, int a, int u, int times) {
        SwingCrane x = crane(text);
        for (int i = 1; i <= times; i++) {
            at("step(" + a + ", " + u + ") of '" + text + "'", x.step(a, u), i);
        }
        stays(x, "step(" + a + ", " + u + ") of '" + text + "'", () -> x.step(a, u), -2);
    }

    private static void boundsOfAState() {
        sentence(6, "STANDS 1: its COLUMN is there");
        lastOne("start 0 1;", -1, 0, 0);
        lastOne("top 1;start 1 1;", -1, 0, 1);
        lastOne("start 15 1;", 1, 0, 0);
        lastOne("width 4;start 3 1;", 1, 0, 0);
        lastOne("width 4;start 2 1;", 1, 0, 1);
        lastOne("width 5;start 4 1;", 1, 0, 0);
        sentence(6, "STANDS 2: SPEED without sign is no more than top");
        lastOne("top 1;start 8 1;", 1, 0, 1);
        lastOne("top 1;start 8 1;", -1, 0, 1);
        lastOne("top 2;start 8 1;", 1, 0, 2);
        lastOne("top 2;start 8 1;", -1, 0, 2);
        sentence(6, "STANDS 3: DEPTH is 1 .. deep");
        lastOne("start 8 3;", 0, -1, 2);
        lastOne("start 8 3;", 0, 1, 3);
        lastOne("deep 2;start 8 1;", 0, 1, 1);
        lastOne("deep 2;start 8 1;", 0, -1, 0);
    }

    private static void tickOfWind(String text, boolean can) {
        SwingCrane x = crane(text);
        if (can) {
            at("step(0, 0) of '" + text + "'", x.step(0, 0), 1);
        } else {
            stays(x, "step(0, 0) of '" + text + "'", () -> x.step(0, 0), -2);
        }
    }

    private static void boundsOfSway() {
        sentence(6, "STANDS 4: SWAY without sign is no more than swing");
        for (int swing = 1; swing <= 3; swing++) {
            for (int sign = -1; sign <= 1; sign += 2) {
                String text = "swing " + swing + ";start 8 1;wind 0 ";
                tickOfWind(text + sign * (swing - 1) + ";", true);
                tickOfWind(text + sign * swing + ";", true);
                tickOfWind(text + sign * (swing + 1) + ";", false);
            }
        }
        sentence(6, "STANDS 5: the load's COLUMN is there");
        for (int wind = 1; wind <= 4; wind++) {
            tickOfWind("start " + wind + " 1;wind 0 -" + wind + ";", true);
            tickOfWind("start " + (wind - 1) + " 1;wind 0 -" + wind + ";", false);
            tickOfWind("start " + (15 - wind) + " 1;wind 0 " + wind + ";", true);
            tickOfWind("start " + (16 - wind) + " 1;wind 0 " + wind + ";", false);
            tickOfWind("width 8;start " + (7 - wind) + " 1;wind 0 " + wind + ";", true);
            tickOfWind("width 8;start " + (8 - wind) + " 1;wind 0 " + wind + ";", false);
        }
    }

    /** In each column from its own to the load's the rope needs so much and no less. */
    private static void ropeIsClear() {
        sentence(6, "STANDS 6: DEPTH times (x less COLUMN) by SWAY, rounded up, is no more than FREE");
        for (int depth = 1; depth <= 6; depth++) {
            for (int sway = 1; sway <= 4; sway++) {
                for (int away = 0; away <= sway; away++) {
                    int need = away == 0 ? 0 : (depth * away + sway - 1) / sway;
                    rope(depth, sway, away, need);
                    rope(depth, -sway, -away, need);
                }
            }
            sentence(6, "STANDS 6: without SWAY: DEPTH");
            rope(depth, 0, 0, depth);
            sentence(6, "STANDS 6: columns that the rope doesn't pass");
            rope(depth, 2, 3, 0);
            rope(depth, 2, -1, 0);
            rope(depth, -2, -3, 0);
            rope(depth, -2, 1, 0);
        }
    }

    private static void rope(int depth, int sway, int away, int need) {
        int column = 8 + away;
        String text = "start 8 " + depth + ";wind 0 " + sway + ";block " + column + " " + column + " ";
        tickOfWind(text + need + ";", true);
        if (need > 0) {
            tickOfWind(text + (need - 1) + ";", false);
        }
    }

    private static void ropeWithBox() {
        sentence(6, "STANDS 6: in the load's COLUMN 1 more, if it HOLDS");
        for (int depth = 1; depth <= 5; depth++) {
            for (int sway = -4; sway <= 4; sway++) {
                if (sway == 0) {
                    continue;
                }
                int load = 8 + sway;
                String text = "start 8 " + depth + ";pile 8 " + (6 - depth) + ";wind 0 " + sway + ";block ";
                boxTick(text + load + " " + load + " " + (depth + 1) + ";", true);
                boxTick(text + load + " " + load + " " + depth + ";", false);
                int next = 8 + sway / 2;
                int need = (depth * Math.abs(sway / 2) + Math.abs(sway) - 1) / Math.abs(sway);
                if (next != 8) {
                    boxTick(text + next + " " + next + " " + need + ";", true);
                    boxTick(text + next + " " + next + " " + (need - 1) + ";", false);
                }
            }
        }
        SwingCrane x = crane("start 8 4;pile 8 2;");
        inside("step(0, 0) without a box", x.step(0, 0), 1);
        at("grab()", x.grab(), true);
        at("step(0, 0): 5 are free", x.step(0, 0), 2);
        stays(x, "step(0, 1)", () -> x.step(0, 1), -2);
    }

    private static void boxTick(String text, boolean can) {
        SwingCrane x = crane(text);
        at("grab() of '" + text + "'", x.grab(), true);
        if (can) {
            at("step(0, 0) of '" + text + "'", x.step(0, 0), 1);
        } else {
            stays(x, "step(0, 0) of '" + text + "'", () -> x.step(0, 0), -2);
        }
    }

    private static void turnByDepth() {
        sentence(6, "C by the new DEPTH: 1, 2: -1; 3, 4: 0; 5, 6: 1");
        int[] turn = {0, -1, -1, 0, 0, 1, 1};
        for (int depth = 1; depth <= 6; depth++) {
            for (int u = -1; u <= 1; u++) {
                int next = depth + u;
                if (next < 1 || next > 6) {
                    continue;
                }
                SwingCrane x = crane("start 8 " + depth + ";wind 0 2;");
                steps(x, 4);
                at("step(0, " + u + ") from " + depth, x.step(0, u), 2);
                at("now(2) at " + next, x.now(2), 2 * turn[next]);
                at("now(3)", x.now(3), 2);
                steps(x, 4);
                at("now(2) at " + next, x.now(2), 2 * turn[next] * turn[next] - 2);
            }
        }
        sentence(6, "less a, and WIND");
        SwingCrane x = crane("start 8 3;wind 0 3;");
        at("step(1, 0)", x.step(1, 0), 1);
        at("now(2)", x.now(2), 2);
        SwingCrane y = crane("start 8 3;wind 0 -3;");
        at("step(-1, 0)", y.step(-1, 0), 1);
        at("now(2)", y.now(2), -2);
        sentence(6, "with the WIND of this TICK (0, if none is told)");
        SwingCrane z = crane("start 8 3;wind 1 2;");
        steps(z, 4);
        inside("now(2) ahead of it", z.now(2), 0);
        steps(z, 4);
        at("now(2)", z.now(2), 2);
        steps(z, 4);
        beyond("now(2) behind it", z.now(2), 0);
        beyond("now(3)", z.now(3), 2);
    }

    /** Beyond the 512 calls that an object is made for, where the document's last tick can be seen at all. */
    private static void lastTick() {
        SwingCrane x = crane("do wait 9;do lower 1;start 8 3;");
        for (int i = 0; i < 9938; i++) {
            x.step(0, 0);
        }
        sentence(18, "9999 is the last TICK");
        inside("drift() at 9938", x.drift(), 60);
        x.step(0, 0);
        at("drift() at 9939", x.drift(), 60);
        x.step(0, 0);
        beyond("drift() at 9940", x.drift(), 59);
        sentence(43, "or it is TICK 9999");
        inside("chance(0, 60, 0) at 9940", x.chance(0, 60, 0), 59);
        inside("chance(0, 59, 0) at 9940", x.chance(0, 59, 0), 59);
        for (int i = 9940; i < 9998; i++) {
            x.step(0, 0);
        }
        at("chance(0, 60, 0) at 9998", x.chance(0, 60, 0), 1);
        inside("drift() at 9998", x.drift(), 1);
        sentence(6, "-2: it is TICK 9999");
        at("step(0, 0) at 9998", x.step(0, 0), 9999);
        stays(x, "step(0, 0)", () -> x.step(0, 0), -2);
        beyond("step(2, 0): NONE goes first", x.step(2, 0), -1);
        sentence(7, "9999 is the last TICK");
        stays(x, "flow(1)", () -> x.flow(1), 0);
        beyond("chance(0, 60, 0)", x.chance(0, 60, 0), 0);
        beyond("chance(0, 60, 1)", x.chance(0, 60, 1), 1);
        beyond("chance(0, 60, 2)", x.chance(0, 60, 2), 0);
        beyond("drift()", x.drift(), 0);
        beyond("can(): no TICK is asked for", x.can(), 511);
        beyond("log(0, 2)", x.log(0, 2), 9998);
        at("keep()", x.keep(), 9999);
        at("undo()", x.undo(), 29);
        at("flow(40)", x.flow(40), 1);
        at("count(7)", x.count(7), 9999);
        at("back()", x.back(), 9999);
    }

    private static void flowArguments() {
        sentence(7, "n 1 .. 40 TICKS at most, NONE: no such n");
        SwingCrane x = crane("do wait 30;do lower 2;do wait 30;do lift 1;do wait 30;");
        int[] none = {0, 41, -1, 42, Integer.MIN_VALUE, Integer.MAX_VALUE};
        for (int n : none) {
            stays(x, "flow(" + n + ")", () -> x.flow(n), -1);
        }
        at("flow(1)", x.flow(1), 1);
        at("count(6)", x.count(6), 1);
        at("flow(40)", x.flow(40), 40);
        at("count(7)", x.count(7), 41);
        inside("flow(39)", x.flow(39), 39);
        sentence(7, "to its end");
        inside("flow(12)", x.flow(12), 12);
        at("flow(40)", x.flow(40), 1);
        stays(x, "flow(40)", () -> x.flow(40), 0);
        at("count(6)", x.count(6), 93);
        stays(new SwingCrane(), "flow(40) without ORDERS", () -> new SwingCrane().flow(40), 0);
        SwingCrane y = crane("do wait 30;do wait 10;");
        at("flow(40)", y.flow(40), 40);
        stays(y, "flow(1)", () -> y.flow(1), 0);
        SwingCrane z = crane("do wait 1;".repeat(15) + "do lower 2;");
        at("flow(40): the 16th ORDER", z.flow(40), 17);
        at("now(4)", z.now(4), 3);
        SwingCrane all = crane("do wait 30;".repeat(16));
        for (int i = 0; i < 12; i++) {
            at("flow(40): 480 TICKS", all.flow(40), 40);
        }
        stays(all, "flow(40)", () -> all.flow(40), 0);
        sentence(7, "each as often as told");
        SwingCrane often = crane("deep 6;do lower 3;do lift 2;do lower 1;");
        int[] depths = {2, 3, 4, 3, 2, 3};
        for (int depth : depths) {
            at("flow(1)", often.flow(1), 1);
            at("now(4)", often.now(4), depth);
        }
    }

    private static void flowStops() {
        sentence(7, "to a STEP that can't be so");
        SwingCrane x = crane("start 8 2;do lift 2;do wait 1;");
        at("flow(40)", x.flow(40), 1);
        stays(x, "flow(40)", () -> x.flow(40), 0);
        steps(x, 5);
        at("flow(40): it goes on there", x.flow(40), 2);
        at("count(6)", x.count(6), 3);
        SwingCrane y = crane("swing 2;start 8 1;wind 1 3;do wait 3;");
        at("flow(40): the WIND", y.flow(40), 1);
        stays(y, "flow(40)", () -> y.flow(40), 0);
        sentence(7, "still: nothing, if it is STILL or none is");
        SwingCrane z = crane("start 8 3;do still 2;");
        at("flow(40)", z.flow(40), 2);
        dueNow(z, 8, 0, 0, 0, 3);
        SwingCrane doomed = crane(DOOMED + "do still 3;");
        steps(doomed, 7);
        at("halt()", doomed.halt(), -2);
        at("can(): not only nothing", doomed.can(), 1 << 1 | 1 << 4);
        at("flow(40)", doomed.flow(40), 1);
        dueNow(doomed, 3, 1, -1, -1, 5);
        SwingCrane stuck = crane("width 4;deep 2;block 0 0 1;start 0 2;do still 1;do lift 1;");
        stays(stuck, "flow(1): it doesn't STAND", () -> stuck.flow(1), 0);
        sentence(7, "still: the STEP by which STILL is nearest, the first by CODE");
        SwingCrane first = crane("start 8 1;do east 1;do still 4;");
        at("flow(2)", first.flow(2), 2);
        at("halt()", first.halt(), 2);
        at("log(0, 0)", first.log(0, 0), 'n');
        at("log(0, 1)", first.log(0, 1), 0);
        at("flow(2)", first.flow(2), 2);
        at("now(6)", first.now(6), 1);
        at("flow(1)", first.flow(1), 1);
        dueNow(first, 11, 0, 0, 0, 1);
        stillInTheWind();
    }

    /** The STEP is that of a crane without the WIND; the WIND pushes it all the same. */
    private static void stillInTheWind() {
        sentence(7, "still: the STEP by which STILL is nearest without WIND");
        for (int depth = 1; depth <= 6; depth++) {
            for (int wind = -2; wind <= 2; wind++) {
                String text = "start 8 " + depth + ";do east 1;do still 1;";
                SwingCrane calm = crane(text);
                SwingCrane blown = crane(text + "wind 1 " + wind + ";");
                int can = calm.flow(2);
                at("flow(2) from " + depth + " without WIND", can, 2);
                at("flow(2) from " + depth + " with a WIND of " + wind, blown.flow(2), 2);
                at("log(0, 0): by the same PUSH", blown.log(0, 0), calm.log(0, 0));
                at("log(0, 1): by the same HOIST", blown.log(0, 1), calm.log(0, 1));
                at("now(4)", blown.now(4), calm.now(4));
                at("now(2): the WIND pushes", blown.now(2), calm.now(2) + wind);
            }
        }
    }

    private static void now() {
        sentence(8, "IndexOutOfBoundsException: what is below 0; NoSuchElementException: what is above 8");
        SwingCrane x = new SwingCrane();
        beyond("now(-1) throws", thrown(x, -1), 1);
        beyond("now(min) throws", thrown(x, Integer.MIN_VALUE), 1);
        at("now(0) throws", thrown(x, 0), 0);
        at("now(8) throws", thrown(x, 8), 0);
        beyond("now(9) throws", thrown(x, 9), 2);
        beyond("now(max) throws", thrown(x, Integer.MAX_VALUE), 2);
        sentence(8, "STILL: SPEED, SWAY, LAST are 0");
        SwingCrane speed = crane("start 0 3;");
        steps(speed, 7, 4, 7);
        dueNow(speed, 4, 2, 0, 0, 3);
        beyond("now(6): SPEED alone", speed.now(6), 0);
        SwingCrane sway = crane("start 8 3;wind 0 1;wind 2 1;");
        at("now(6)", sway.now(6), 1);
        steps(sway, 4);
        dueNow(sway, 8, 0, 1, 0, 3);
        beyond("now(6): SWAY alone", sway.now(6), 0);
        steps(sway, 4);
        dueNow(sway, 8, 0, 0, 1, 3);
        beyond("now(6): LAST alone", sway.now(6), 0);
        steps(sway, 4);
        at("now(6)", sway.now(6), 1);
        sentence(8, "7: WHY it doesn't STAND (0: it does)");
        at("now(7): DEPTH is FREE", crane("block 0 0 3;start 0 3;").now(7), 0);
        beyond("now(7): one deeper", crane("block 0 0 3;start 0 4;").now(7), 6);
        at("now(7): above BOXES", crane("pile 0 5;").now(7), 0);
        beyond("now(7): none is free", crane("pile 0 6;").now(7), 6);
    }

    private static void grab() {
        sentence(9, "GRAB, if DEPTH is FREE of it");
        SwingCrane x = crane("start 8 2;pile 8 3;");
        stays(x, "grab(): one too high", () -> bit(x.grab()), 0);
        steps(x, 5);
        at("grab()", x.grab(), true);
        at("pile(8)", x.pile(8), 2);
        at("free(8)", x.free(8), 4);
        SwingCrane deep = crane("start 8 4;pile 8 3;");
        stays(deep, "grab(): one too deep", () -> bit(deep.grab()), 0);
        SwingCrane block = crane("start 8 2;block 8 8 3;pile 8 1;");
        at("grab() above a block", block.grab(), true);
        SwingCrane full = crane("start 8 1;block 8 8 2;pile 8 4;");
        stays(full, "grab(): none is free", () -> bit(full.grab()), 0);
        sentence(9, "GRAB, if its COLUMN has a PILE");
        SwingCrane none = crane("start 8 6;pile 7 1;pile 9 1;");
        stays(none, "grab()", () -> bit(none.grab()), 0);
        SwingCrane last = crane("start 8 5;pile 8 1;");
        at("grab(): the last BOX", last.grab(), true);
        at("pile(8)", last.pile(8), 0);
        sentence(9, "GRAB, if it doesn't HOLD");
        SwingCrane twice = crane("start 8 3;pile 8 3;");
        at("grab()", twice.grab(), true);
        stays(twice, "grab()", () -> bit(twice.grab()), 0);
        SwingCrane other = crane("start 8 3;pile 8 3;pile 11 2;");
        other.grab();
        stays(other, "grab()", () -> bit(other.grab()), 0);
        at("drop()", other.drop(), true);
        at("grab() again", other.grab(), true);
        sentence(9, "GRAB, if it is STILL");
        SwingCrane swings = crane("start 8 3;pile 8 3;wind 0 1;wind 2 1;");
        steps(swings, 4);
        stays(swings, "grab(): SWAY", () -> bit(swings.grab()), 0);
        steps(swings, 4);
        stays(swings, "grab(): LAST", () -> bit(swings.grab()), 0);
        steps(swings, 4);
        at("grab()", swings.grab(), true);
        SwingCrane rolls = crane("start 0 3;pile 4 3;");
        steps(rolls, 7, 4, 7);
        stays(rolls, "grab(): SPEED", () -> bit(rolls.grab()), 0);
    }

    private static void drop() {
        sentence(10, "DROP, if DEPTH and 1 is FREE");
        SwingCrane x = crane("start 8 3;pile 8 3;");
        at("grab()", x.grab(), true);
        steps(x, 3);
        stays(x, "drop(): one too high", () -> bit(x.drop()), 0);
        steps(x, 5);
        at("drop()", x.drop(), true);
        at("pile(8)", x.pile(8), 3);
        at("free(8)", x.free(8), 3);
        sentence(10, "DROP, if it HOLDS");
        stays(x, "drop()", () -> bit(x.drop()), 0);
        SwingCrane never = crane("start 8 5;");
        stays(never, "drop(): 6 are FREE", () -> bit(never.drop()), 0);
        sentence(10, "DROP, if it is STILL");
        SwingCrane swings = crane("deep 4;start 8 3;pile 8 1;wind 0 1;wind 2 1;");
        at("grab()", swings.grab(), true);
        steps(swings, 4);
        stays(swings, "drop(): SWAY", () -> bit(swings.drop()), 0);
        steps(swings, 4);
        stays(swings, "drop(): LAST", () -> bit(swings.drop()), 0);
        steps(swings, 4);
        at("drop()", swings.drop(), true);
        SwingCrane rolls = crane("deep 4;start 0 3;pile 0 1;");
        at("grab()", rolls.grab(), true);
        steps(rolls, 7, 4, 7);
        stays(rolls, "drop(): SPEED", () -> bit(rolls.drop()), 0);
        sentence(10, "DROP: the PILE is one more, where there was none");
        SwingCrane floor = crane("deep 2;top 1;swing 1;start 0 1;pile 0 1;");
        at("grab()", floor.grab(), true);
        steps(floor, 7, 4, 4, 1);
        at("now(0)", floor.now(0), 3);
        at("drop()", floor.drop(), true);
        at("pile(3)", floor.pile(3), 1);
        at("pile(0)", floor.pile(0), 0);
        at("count(12)", floor.count(12), 1);
    }

    private static void columns() {
        String[] texts = {"width 4;pile 0 1;pile 3 2;block 0 0 5;block 3 3 4;",
            "pile 0 1;pile 15 2;block 0 0 5;block 15 15 4;"};
        for (String text : texts) {
            SwingCrane x = crane(text);
            int width = x.count(0);
            int[] none = {-1, width, width + 1, 16, 17, FAR[0], FAR[1]};
            sentence(11, "NONE: it isn't there");
            at("pile(0)", x.pile(0), 1);
            inside("pile(1)", x.pile(1), 0);
            at("pile(" + (width - 1) + ")", x.pile(width - 1), 2);
            for (int column : none) {
                beyond("pile(" + column + ")", x.pile(column), -1);
            }
            sentence(12, "NONE: it isn't there");
            at("free(0)", x.free(0), 4);
            inside("free(1)", x.free(1), 6);
            at("free(" + (width - 1) + ")", x.free(width - 1), 2);
            for (int column : none) {
                beyond("free(" + column + ")", x.free(column), -1);
            }
            sentence(13, "NONE: they aren't there");
            at("gap of all", x.gap(0, width - 1), 2);
            at("gap of all, from the other end", x.gap(width - 1, 0), 2);
            for (int column : none) {
                beyond("gap(0, " + column + ")", x.gap(0, column), -1);
                beyond("gap(" + column + ", 0)", x.gap(column, 0), -1);
                beyond("gap(" + column + ", " + column + ")", x.gap(column, column), -1);
            }
        }
    }

    private static void freeAndGap() {
        sentence(12, "less its PILE, 0 at least");
        inside("free(3)", crane("block 3 3 3;pile 3 2;").free(3), 1);
        at("free(3)", crane("block 3 3 3;pile 3 3;").free(3), 0);
        beyond("free(3)", crane("block 3 3 3;pile 3 4;").free(3), 0);
        beyond("free(3)", crane("block 3 3 0;pile 3 6;").free(3), 0);
        at("free(3)", crane("deep 2;pile 3 2;").free(3), 0);
        sentence(12, "the least DEPTH of the blocks that have it (deep without)");
        SwingCrane x = crane("deep 5;block 2 6 4;block 4 8 2;block 5 5 3;");
        int[] free = {5, 5, 4, 4, 2, 2, 2, 2, 2, 5, 5};
        for (int column = 0; column < free.length; column++) {
            at("free(" + column + ")", x.free(column), free[column]);
        }
        at("free(0) without", crane("deep 2;").free(0), 2);
        String[] orders = {"block 4 5 2;block 8 8 1;block 3 9 4;", "block 3 9 4;block 8 8 1;block 4 5 2;",
            "block 8 8 1;block 3 9 4;block 4 5 2;"};
        int[] least = {6, 6, 6, 4, 2, 2, 4, 4, 1, 4, 6};
        for (String blocks : orders) {
            SwingCrane y = crane(blocks);
            for (int column = 0; column < least.length; column++) {
                at("free(" + column + ") of '" + blocks + "'", y.free(column), least[column]);
            }
        }
        sentence(13, "another one (or the same), and all between");
        at("gap(4, 4)", x.gap(4, 4), 2);
        inside("gap(3, 3)", x.gap(3, 3), 4);
        inside("gap(2, 3)", x.gap(2, 3), 4);
        at("gap(0, 3)", x.gap(0, 3), 4);
        at("gap(3, 4): its end", x.gap(3, 4), 2);
        at("gap(8, 9): its beginning", x.gap(8, 9), 2);
        inside("gap(0, 9): between alone", x.gap(0, 9), 2);
        inside("gap(9, 0)", x.gap(9, 0), 2);
        beyond("gap(9, 10)", x.gap(9, 10), 5);
    }

    private static void wind() {
        sentence(14, "The WIND told for a TICK (0: none is); 0 below 0, too");
        SwingCrane x = crane("wind 0 4;wind 5 -4;wind 6 0;wind 7 1;wind 999 -1;");
        int[][] want = {{-1, 0}, {0, 4}, {1, 0}, {4, 0}, {5, -4}, {6, 0}, {7, 1}, {8, 0}, {998, 0}, {999, -1},
            {1000, 0}, {-5, 0}, {FAR[0], 0}, {FAR[1], 0}};
        for (int[] pair : want) {
            at("wind(" + pair[0] + ")", x.wind(pair[0]), pair[1]);
        }
        SwingCrane none = new SwingCrane();
        at("wind(0) without", none.wind(0), 0);
        SwingCrane eight = crane("wind 0 1;wind 1 1;wind 2 1;wind 3 1;wind 4 1;wind 5 1;wind 6 1;wind 7 2;");
        at("wind(7): the eighth", eight.wind(7), 2);
    }

    private static void why() {
        sentence(15, "NONE: no such CODE");
        SwingCrane x = crane("start 8 3;");
        int[] none = {-1, 9, 10, FAR[0], FAR[1]};
        for (int code : none) {
            beyond("why(" + code + ")", x.why(code), -1);
        }
        at("why(0)", x.why(0), 0);
        at("why(8)", x.why(8), 0);
        sentence(15, "without WIND");
        at("why(4)", crane("swing 1;start 8 1;wind 0 2;").why(4), 0);
        sentence(15, "the first of these numbers");
        SwingCrane end = crane("width 4;top 1;swing 1;start 2 1;");
        steps(end, 7);
        at("why(7): 1 and 2", end.why(7), 1);
        at("why(6): 1, 2 and 3", end.why(6), 1);
        at("why(3): 1 and 3", end.why(3), 1);
        at("why(0): 3, 4 and 5", end.why(0), 3);
        at("why(1): 4 and 5", end.why(1), 4);
        SwingCrane fast = crane("top 1;swing 1;start 8 1;");
        steps(fast, 7);
        at("why(6): 2 and 3", fast.why(6), 2);
        at("why(7): 2", fast.why(7), 2);
        at("why(0): 3 and 4", fast.why(0), 3);
        at("why(1): 4", fast.why(1), 4);
        SwingCrane out = crane("width 4;start 2 1;block 3 3 0;");
        at("why(7): the load over its own column", out.why(7), 0);
        steps(out, 7);
        at("why(1): 5 and 6", out.why(1), 5);
        SwingCrane east = crane("width 6;start 4 3;");
        steps(east, 7);
        dueNow(east, 5, 1, -1, 0, 3);
        at("why(1): 5, the load in the COLUMN behind the last one", east.why(1), 5);
        SwingCrane last = crane("start 14 3;");
        steps(last, 7);
        at("why(1): 5, the load in COLUMN 16", last.why(1), 5);
        SwingCrane inside = crane("width 6;start 3 3;");
        steps(inside, 7);
        inside("why(1): the load in the last COLUMN", inside.why(1), 0);
        SwingCrane west = crane("width 6;start 1 3;");
        steps(west, 1);
        dueNow(west, 0, -1, 1, 0, 3);
        at("why(7): 5, the load in COLUMN -1", west.why(7), 5);
        SwingCrane first = crane("width 6;start 2 3;");
        steps(first, 1);
        inside("why(7): the load in COLUMN 0", first.why(7), 0);
        SwingCrane block = crane("swing 1;start 8 1;block 7 7 0;block 10 10 0;");
        steps(block, 7);
        at("why(1): 4 and 6", block.why(1), 4);
        SwingCrane clear = crane("start 8 1;block 11 11 0;");
        steps(clear, 7);
        at("why(1): 6", clear.why(1), 6);
        sentence(15, "3: DEPTH is 1 .. deep");
        for (int deep = 2; deep <= 6; deep++) {
            SwingCrane low = crane("deep " + deep + ";start 8 " + deep + ";");
            SwingCrane high = crane("deep " + deep + ";start 8 1;");
            for (int push = 0; push < 3; push++) {
                beyond("why of DEPTH " + (deep + 1), low.why(3 * push + 2), 3);
                at("why of DEPTH " + deep, low.why(3 * push + 1), 0);
                inside("why of DEPTH " + (deep - 1), low.why(3 * push), 0);
                beyond("why of DEPTH 0", high.why(3 * push), 3);
                at("why of DEPTH 1", high.why(3 * push + 1), 0);
                inside("why of DEPTH 2", high.why(3 * push + 2), 0);
            }
        }
        sentence(15, "from NOW, that may not STAND");
        SwingCrane stuck = crane("block 8 8 1;start 8 2;");
        at("why(4)", stuck.why(4), 6);
        at("why(3)", stuck.why(3), 0);
        at("why(5)", stuck.why(5), 6);
    }

    private static void can() {
        sentence(16, "as bits by CODES");
        at("can(): all", crane("start 8 3;").can(), 511);
        at("can(): none", crane("width 4;deep 2;block 0 3 0;").can(), 0);
        at("can(): lifted alone", crane("start 1 2;block 1 1 1;block 0 0 0;block 2 2 0;").can(), 1 | 1 << 3 | 1 << 6);
        at("can() at the top", crane("start 8 1;").can(), 511 & ~(1 | 1 << 3 | 1 << 6));
        at("can() at the bottom", crane("start 8 6;").can(), 511 & ~(1 << 2 | 1 << 5 | 1 << 8));
        at("can() at the west end", crane("start 0 3;").can(), 511 & ~7);
        at("can() at the east end", crane("start 15 3;").can(), 511 & ~(7 << 6));
        at("can() without WIND", crane("start 8 3;wind 0 4;").can(), 511);
    }

    private static void sway() {
        sentence(17, "n 0 .. 60; NONE - 99: no such n");
        SwingCrane x = crane("start 8 1;wind 1 4;");
        steps(x, 7);
        int[] none = {-1, 61, 62, FAR[0], FAR[1]};
        for (int n : none) {
            beyond("sway(" + n + ")", x.sway(n), -100);
        }
        at("sway(0)", x.sway(0), -1);
        inside("sway(1): without WIND", x.sway(1), 1);
        inside("sway(58)", x.sway(58), 1);
        inside("sway(59)", x.sway(59), 0);
        at("sway(60)", x.sway(60), -1);
        sentence(17, "whatever STANDS");
        SwingCrane end = crane("width 4;start 2 3;");
        steps(end, 7);
        at("why(4)", end.why(4), 1);
        int[] swings = {-1, 0, 1, 0, -1, 0, 1};
        for (int n = 0; n < swings.length; n++) {
            at("sway(" + n + ")", end.sway(n), swings[n]);
        }
        at("sway(60) of what doesn't STAND", crane("block 0 0 0;").sway(60), 0);
    }

    private static void drift() {
        sentence(18, "60 at most");
        at("drift()", new SwingCrane().drift(), 60);
        inside("drift(): a WIND at 58", crane("wind 58 -1;").drift(), 58);
        inside("drift(): a WIND at 59", crane("wind 59 -1;").drift(), 59);
        SwingCrane x = crane("wind 60 -1;");
        at("drift(): a WIND at 60", x.drift(), 60);
        steps(x, 4);
        beyond("drift(): from TICK 1 on", x.drift(), 59);
        steps(x, 4);
        beyond("drift(): from TICK 2 on", x.drift(), 58);
        sentence(18, "with WINDS as told");
        beyond("drift(): a WIND at 0", crane("wind 0 -1;").drift(), 0);
        at("drift(): as far as it goes", crane("start 1 3;wind 0 -1;").drift(), 60);
        beyond("drift(): it doesn't STAND", crane("block 0 0 0;").drift(), 0);
        at("drift(): blown free", crane("block 8 8 0;start 8 1;wind 0 1;").drift(), 2);
        SwingCrane rolls = crane("start 8 1;");
        steps(rolls, 7);
        at("drift(): to the last COLUMN", rolls.drift(), 6);
    }

    static void run() {
        stepArguments();
        boundsOfAState();
        boundsOfSway();
        ropeIsClear();
        ropeWithBox();
        turnByDepth();
        lastTick();
        flowArguments();
        flowStops();
        now();
        grab();
        drop();
        columns();
        freeAndGap();
        wind();
        why();
        can();
        sway();
        drift();
    }
}
