/** The edges of ways, orders of spots and jobs, and what might be: promises 19 to 32 and 35 to 40. */
final class WayEdges extends Edges {
    /** Only up and down, in column 0: rests at 1 .. 4 deep. The last spot is in a block. */
    private static final String SHAFT = "width 4;deep 4;top 1;swing 1;block 1 3 0;start 0 2;"
            + "spot high 0 1;spot here 0 2;spot low 0 4;spot in 2 1;";
    /** It hangs one too deep at first; behind one lift it stands. */
    private static final String STUCK = "width 4;deep 3;top 1;swing 1;block 0 0 1;start 0 2;spot a 0 2;spot b 0 1;"
            + "spot c 3 1;pile 3 1;job 3 2;";
    /** The only rest is where it hangs. */
    private static final String CELL = "width 4;deep 2;top 1;swing 1;block 0 0 1;block 1 3 0;spot a 0 1;spot b 3 1;";
    private static final int[] FAR = {Integer.MIN_VALUE, Integer.MAX_VALUE};
    private static final int[] NO_SPOT_OF_FOUR = {-1, 4, 5, 6, FAR[0], FAR[1]};

    private WayEdges() {
    }

    private static SwingCrane doomed() {
        SwingCrane x = crane(StepEdges.DOOMED);
        steps(x, 7);
        return x;
    }

    private static void noSuchSpot() {
        SwingCrane x = crane(SHAFT);
        for (int spot : NO_SPOT_OF_FOUR) {
            sentence(19, "NONE: no such spot");
            beyond("fewest(" + spot + ")", x.fewest(spot), -1);
            sentence(20, "NONE: no such ones");
            beyond("by(" + spot + ", 0)", x.by(spot, 0), -1);
            sentence(23, "NONE: no such ones");
            beyond("between(" + spot + ", 0)", x.between(spot, 0), -1);
            beyond("between(0, " + spot + ")", x.between(0, spot), -1);
            beyond("between(" + spot + ", " + spot + ")", x.between(spot, spot), -1);
            sentence(25, "NONE: no such i");
            beyond("stop(" + spot + ")", x.stop(spot), -1);
            sentence(29, "NONE: no such ones");
            beyond("ifPile(0, " + spot + ")", x.ifPile(0, spot), -1);
            sentence(35, "NONE: no such spot");
            beyond("level(" + spot + ")", x.level(spot), -1);
            sentence(36, "NONE: no such ones");
            beyond("ifWind(" + spot + ", 0)", x.ifWind(spot, 0), -1);
            sentence(38, "NONE: no such spot");
            beyond("least(" + spot + ")", x.least(spot), -1);
            sentence(39, "NONE: no such spot");
            beyond("steadiest(" + spot + ")", x.steadiest(spot), -1);
            sentence(40, "-99: no such ones");
            beyond("along(" + spot + ", 0)", x.along(spot, 0), -99);
        }
    }

    /** The spots of a text are gone with the next one. */
    private static void spotsOfAnEarlierText() {
        SwingCrane x = crane(SHAFT);
        tell(x, "spot one 0 1;");
        sentence(19, "NONE: no such spot any more");
        at("fewest(0)", x.fewest(0), 0);
        beyond("fewest(1)", x.fewest(1), -1);
        beyond("between(0, 1)", x.between(0, 1), -1);
        beyond("stop(1)", x.stop(1), -1);
        beyond("along(1, 0)", x.along(1, 0), -99);
        at("tour()", x.tour(), 0);
        at("nearest()", x.nearest(), 0);
    }

    private static void sixSpots() {
        String text = "width 4;deep 6;top 1;swing 1;block 1 3 0;start 0 3;"
                + "spot a 0 6;spot b 0 5;spot c 0 4;spot d 0 3;spot e 0 2;spot f 0 1;";
        SwingCrane x = crane(text);
        sentence(19, "spots 0 .. 5, numbered from 0 on");
        int[] far = {3, 2, 1, 0, 1, 2};
        for (int spot = 0; spot < 6; spot++) {
            at("fewest(" + spot + ")", x.fewest(spot), far[spot]);
            at("between(5, " + spot + ")", x.between(5, spot), 5 - spot);
            at("least(" + spot + ")", x.least(spot), far[spot]);
        }
        beyond("fewest(6)", x.fewest(6), -1);
        sentence(24, "by all spots, each once, in whatever order");
        at("tour(): up, then down", x.tour(), 7);
        sentence(25, "of several the first by numbers of spots");
        int[] order = {3, 4, 5, 2, 1, 0};
        for (int i = 0; i < 6; i++) {
            at("stop(" + i + ")", x.stop(i), order[i]);
        }
        beyond("stop(6)", x.stop(6), -1);
        sentence(37, "The spot to which FEWEST STEPS lead");
        at("nearest()", x.nearest(), 3);
    }

    private static void fewestAndBy() {
        SwingCrane x = crane(SHAFT);
        sentence(19, "-2: there is no WAY");
        at("fewest(1): it is there", x.fewest(1), 0);
        inside("fewest(0)", x.fewest(0), 1);
        inside("fewest(2)", x.fewest(2), 2);
        beyond("fewest(3)", x.fewest(3), -2);
        sentence(19, "each of which CAN BE: by no SWAY beyond swing");
        String[] tight = {"width 5;deep 5;top 2;swing 1;block 2 4 3;block 3 3 3;start 2 2;spot a 1 5;",
            "width 7;deep 5;top 2;swing 1;block 2 3 0;start 4 4;spot a 0 1;",
            "width 9;deep 6;top 2;swing 2;block 3 4 2;start 6 5;spot a 1 5;"};
        for (String text : tight) {
            at("fewest(0) of '" + text + "'", crane(text).fewest(0), PlainAnswers.fewest(text, 0));
        }
        sentence(20, "-2: there are not so many, no WAY");
        at("by(2, 0)", x.by(2, 0), 5);
        at("by(2, 1)", x.by(2, 1), 5);
        beyond("by(2, 2)", x.by(2, 2), -2);
        beyond("by(2, max)", x.by(2, FAR[1]), -2);
        at("by(0, 0)", x.by(0, 0), 3);
        beyond("by(0, 1)", x.by(0, 1), -2);
        beyond("by(1, 0): it is there", x.by(1, 0), -2);
        beyond("by(3, 0): no WAY", x.by(3, 0), -2);
        sentence(20, "k: 0 on");
        beyond("by(2, -1)", x.by(2, -1), -1);
        beyond("by(2, min)", x.by(2, FAR[0]), -1);
        beyond("by(3, -1): NONE goes ahead of -2", x.by(3, -1), -1);
        sentence(20, "of several the first by CODES");
        SwingCrane two = crane("deep 6;start 8 3;spot a 8 4;");
        at("by(0, 0)", two.by(0, 0), 5);
        SwingCrane row = crane("width 4;deep 2;top 1;swing 1;spot a 3 2;");
        int[] codes = {7, 4, 4, 2};
        for (int k = 0; k < codes.length; k++) {
            at("by(0, " + k + "): as late as it can be lowered", row.by(0, k), codes[k]);
        }
    }

    private static void haltAndRests() {
        sentence(21, "0: it is STILL");
        SwingCrane x = crane("width 4;deep 2;top 1;swing 1;");
        at("halt()", x.halt(), 0);
        steps(x, 7);
        inside("halt()", x.halt(), 3);
        steps(x, 4, 4);
        inside("halt()", x.halt(), 1);
        steps(x, 1);
        at("halt()", x.halt(), 0);
        for (int column = 0; column < 16; column++) {
            for (int depth = 1; depth <= 6; depth++) {
                SwingCrane rest = crane("start " + column + " " + depth + ";");
                at("halt() at " + column + ", " + depth, rest.halt(), 0);
                at("rests(0) at " + column + ", " + depth, rest.rests(0), column);
                at("rests(1) at " + column + ", " + depth, rest.rests(1), depth);
            }
        }
        sentence(21, "-2: there is no WAY");
        beyond("halt()", doomed().halt(), -2);
        beyond("halt(): STILL, but it doesn't STAND", crane(STUCK).halt(), -2);
        sentence(22, "what 0 COLUMN, 1 DEPTH; NONE for another what");
        SwingCrane rest = crane("start 7 4;");
        at("rests(0)", rest.rests(0), 7);
        at("rests(1)", rest.rests(1), 4);
        int[] none = {-1, 2, 3, FAR[0], FAR[1]};
        for (int what : none) {
            beyond("rests(" + what + ")", rest.rests(what), -1);
            beyond("rests(" + what + "): NONE goes ahead of -2", doomed().rests(what), -1);
        }
        sentence(22, "-2: there is no WAY");
        beyond("rests(0)", doomed().rests(0), -2);
        beyond("rests(1)", doomed().rests(1), -2);
        beyond("rests(0): it doesn't STAND", crane(STUCK).rests(0), -2);
        sentence(22, "by CODES the first one");
        SwingCrane lifted = crane("width 5;deep 2;top 1;swing 1;start 0 2;");
        steps(lifted, 7);
        at("halt()", lifted.halt(), 3);
        at("rests(0)", lifted.rests(0), 3);
        at("rests(1): by code 3 first", lifted.rests(1), 1);
    }

    private static void between() {
        SwingCrane x = crane(SHAFT);
        sentence(23, "0 to itself, whether it STANDS or not");
        at("between(0, 0)", x.between(0, 0), 0);
        at("between(3, 3): it doesn't STAND", x.between(3, 3), 0);
        sentence(23, "-2: there is no WAY, that STATE doesn't STAND");
        inside("between(0, 2)", x.between(0, 2), 3);
        inside("between(2, 0)", x.between(2, 0), 3);
        beyond("between(0, 3)", x.between(0, 3), -2);
        beyond("between(3, 0)", x.between(3, 0), -2);
        SwingCrane wall = crane("width 6;deep 2;top 1;swing 1;block 2 3 0;spot a 1 1;spot b 5 1;");
        beyond("between(0, 1): no WAY", wall.between(0, 1), -2);
        beyond("between(1, 0): no WAY", wall.between(1, 0), -2);
        SwingCrane same = crane("block 9 9 0;spot a 9 1;spot b 9 1;spot c 8 1;spot d 8 1;");
        beyond("between(0, 1): another spot there, that doesn't STAND", same.between(0, 1), -2);
        at("between(2, 3): another spot there", same.between(2, 3), 0);
        sentence(23, "from STILL at a spot, wherever NOW is");
        at("between(0, 1): NOW doesn't STAND", crane(STUCK).between(1, 1), 0);
        SwingCrane now = doomed();
        at("between(0, 0)", now.between(0, 0), 0);
        SwingCrane stuck = crane("width 4;deep 4;top 1;swing 1;block 0 0 1;start 0 2;spot a 2 1;spot b 2 3;");
        at("between(0, 1): NOW doesn't STAND", stuck.between(0, 1), 2);
    }

    private static void tourAndStop() {
        sentence(24, "0 without spots");
        at("tour()", new SwingCrane().tour(), 0);
        at("tour(): it doesn't STAND", crane("block 0 0 0;").tour(), 0);
        beyond("stop(0)", new SwingCrane().stop(0), -1);
        sentence(24, "-2: there is no such order");
        String reachable = SHAFT.replace("spot in 2 1;", "");
        SwingCrane x = crane(reachable);
        at("tour()", x.tour(), 4);
        beyond("tour(): one spot in a block", crane(SHAFT).tour(), -2);
        beyond("tour(): it doesn't STAND", crane(STUCK).tour(), -2);
        beyond("tour(): no WAY", doomed().tour(), -2);
        sentence(25, "of several the first by numbers of spots; -2: there is no such order");
        for (int i = 0; i < 3; i++) {
            at("stop(" + i + ")", x.stop(i), i);
            beyond("stop(" + i + ")", crane(SHAFT).stop(i), -2);
        }
        beyond("stop(3)", x.stop(3), -1);
        beyond("stop(4): NONE goes ahead of -2", crane(SHAFT).stop(4), -1);
        beyond("stop(-1): NONE goes ahead of -2", crane(SHAFT).stop(-1), -1);
        sentence(24, "from NOW");
        steps(x, 5, 5);
        at("tour() from below", x.tour(), 3);
        at("stop(0)", x.stop(0), 2);
        x.undo();
        at("tour() from 3 deep", x.tour(), 4);
        at("one spot", crane("start 3 1;spot a 3 4;").tour(), 3);
    }

    private static final String LOT = "width 4;deep 2;top 1;swing 1;";

    private static void carry() {
        SwingCrane x = crane(LOT + "pile 0 1;");
        sentence(26, "NONE: no such ones");
        int[] none = {-1, 4, 5, 16, FAR[0], FAR[1]};
        for (int column : none) {
            beyond("carry(" + column + ", 0)", x.carry(column, 0), -1);
            beyond("carry(0, " + column + ")", x.carry(0, column), -1);
        }
        sentence(26, "from a COLUMN to another one");
        at("carry(0, 3)", x.carry(0, 3), 4);
        for (int column = 0; column < 4; column++) {
            beyond("carry(" + column + ", " + column + ")", x.carry(column, column), -1);
        }
        sentence(26, "-2: no BOX");
        beyond("carry(3, 0)", x.carry(3, 0), -2);
        sentence(26, "-2: no WAY");
        beyond("carry(0, 1)", x.carry(0, 1), -2);
        beyond("carry(3, 2): it doesn't STAND", crane(STUCK).carry(3, 2), -2);
        beyond("carry: to the box", crane("width 6;deep 2;top 1;swing 1;block 2 3 0;pile 5 1;").carry(5, 0), -2);
        sentence(26, "-2: no room");
        String boxes = "width 4;deep 3;top 1;swing 1;pile 0 2;";
        inside("carry(0, 3): 3 FREE", crane(boxes).carry(0, 3), 4);
        at("carry(0, 3): 2 FREE", crane(boxes + "pile 3 1;").carry(0, 3), 4);
        beyond("carry(0, 3): 1 FREE", crane(boxes + "pile 3 2;").carry(0, 3), -2);
        beyond("carry(0, 3): 0 FREE", crane(boxes + "pile 3 3;").carry(0, 3), -2);
        at("carry(3, 0): 1 FREE", crane("width 4;deep 3;top 1;swing 1;pile 3 2;").carry(3, 0), 8);
        beyond("carry(3, 0): 0 FREE", crane("width 4;deep 3;top 1;swing 1;pile 3 3;").carry(3, 0), -2);
        sentence(26, "-3: it HOLDS");
        at("grab()", x.grab(), true);
        at("carry(0, 3)", x.carry(0, 3), -3);
        at("carry(3, 0): -3 goes ahead of -2", x.carry(3, 0), -3);
        beyond("carry(0, 0): NONE goes ahead of -3", x.carry(0, 0), -1);
        beyond("carry(0, 4): NONE goes ahead of -3", x.carry(0, 4), -1);
        at("drop()", x.drop(), true);
        at("carry(0, 3)", x.carry(0, 3), 4);
        carryWhileItMoves();
    }

    /** STEPS to the BOX are those from NOW, the others those of a crane that hangs there. */
    private static void carryWhileItMoves() {
        String text = "width 9;deep 4;swing 3;pile 5 2;job 5 2;spot box 5 2;";
        int behind = crane(text + "start 5 2;").carry(5, 2);
        int[][] rows = {{}, {7}, {7, 4}, {7, 8}, {7, 7}, {8, 4, 1}};
        for (int[] codes : rows) {
            SwingCrane x = crane(text);
            steps(x, codes);
            sentence(26, "FEWEST STEPS (from NOW) to STILL there, then, holding, to STILL at the other one");
            at("carry(5, 2) in column " + x.now(0), x.carry(5, 2), x.fewest(0) + behind);
            sentence(27, "FEWEST STEPS (from NOW), of one job those of its CARRY");
            at("jobs() in column " + x.now(0), x.jobs(), x.fewest(0) + behind);
        }
        at("carry(5, 2)", crane(text).carry(5, 2), PlainAnswers.carry(text, 5, 2));
    }

    private static void jobs() {
        sentence(27, "0 without");
        at("jobs()", new SwingCrane().jobs(), 0);
        at("jobs(): it doesn't STAND", crane("block 0 0 0;").jobs(), 0);
        sentence(27, "-2: by no order");
        at("jobs()", crane(LOT + "pile 0 1;job 0 3;").jobs(), 4);
        beyond("jobs(): no BOX", crane(LOT + "job 0 3;").jobs(), -2);
        beyond("jobs(): no room", crane(LOT + "pile 0 1;pile 3 1;job 0 3;").jobs(), -2);
        beyond("jobs(): one BOX for two", crane("pile 0 1;job 0 3;job 0 4;").jobs(), -2);
        beyond("jobs(): it doesn't STAND", crane(STUCK).jobs(), -2);
        at("jobs(): the BOX comes there first", crane(LOT + "pile 0 1;job 3 0;job 0 3;").jobs(), 8);
        sentence(27, "-3: it HOLDS");
        SwingCrane holds = crane(LOT + "pile 0 1;");
        at("grab()", holds.grab(), true);
        at("jobs() without", holds.jobs(), -3);
        SwingCrane told = crane(LOT + "pile 0 1;job 3 1;");
        at("jobs()", told.jobs(), -2);
        at("grab()", told.grab(), true);
        at("jobs(): -3 goes ahead of -2", told.jobs(), -3);
        sentence(28, "-3 likewise; NONE: no such i");
        at("job(0)", told.job(0), -3);
        beyond("job(1): NONE goes ahead of -3", told.job(1), -1);
        beyond("job(-1): NONE goes ahead of -3", told.job(-1), -1);
        told.undo();
        sentence(28, "-2 likewise; NONE: no such i");
        at("job(0)", told.job(0), -2);
        beyond("job(1)", told.job(1), -1);
        beyond("job(-1)", told.job(-1), -1);
        beyond("job(0) without", new SwingCrane().job(0), -1);
        sentence(28, "The i-th job (0 on) of that order, of several the first by numbers");
        SwingCrane three = crane("pile 0 3;job 0 9;job 0 9;job 0 9;");
        for (int i = 0; i < 3; i++) {
            at("job(" + i + ")", three.job(i), i);
        }
        int[] none = {-1, 3, 4, FAR[0], FAR[1]};
        for (int i : none) {
            beyond("job(" + i + ")", three.job(i), -1);
        }
        jobsOneBehindAnother();
        SwingCrane turned = crane(LOT + "pile 0 1;job 3 0;job 0 3;");
        at("job(0)", turned.job(0), 1);
        at("job(1)", turned.job(1), 0);
    }

    private static void jobsOneBehindAnother() {
        sentence(27, "each from where the one ahead ended, by PILES as they are then");
        String[] texts = {"width 8;deep 4;top 2;swing 1;pile 7 3;pile 1 3;job 1 3;job 7 1;",
            "width 5;deep 4;top 1;swing 3;pile 0 3;job 0 4;job 0 4;job 0 2;",
            "width 7;deep 5;top 1;swing 1;pile 4 4;job 4 5;job 4 0;",
            "width 7;deep 5;top 2;swing 1;pile 6 4;pile 5 3;pile 3 3;job 5 4;job 6 4;job 6 0;",
            "width 4;deep 5;top 1;swing 2;pile 3 3;pile 0 3;job 0 2;job 0 1;job 3 1;",
            "width 5;deep 4;top 2;swing 2;pile 1 3;job 1 2;job 1 3;job 1 0;"};
        int[] steps = {30, 31, 29, 32, 27, 36};
        for (int i = 0; i < texts.length; i++) {
            SwingCrane x = crane(texts[i]);
            at("jobs() of '" + texts[i] + "'", x.jobs(), steps[i]);
            for (int k = 0; k < 3; k++) {
                at("job(" + k + ") of '" + texts[i] + "'", x.job(k), PlainAnswers.job(texts[i], k));
            }
        }
    }

    private static void ifPile() {
        SwingCrane x = crane(SHAFT);
        sentence(29, "NONE: no such COLUMN");
        int[] none = {-1, 4, 5, 16, FAR[0], FAR[1]};
        for (int column : none) {
            beyond("ifPile(" + column + ", 0)", x.ifPile(column, 0), -1);
            beyond("ifPile(" + column + ", 3): NONE goes ahead of -2", x.ifPile(column, 3), -1);
        }
        at("ifPile(3, 0)", x.ifPile(3, 0), 1);
        sentence(29, "-2: there is no WAY");
        at("ifPile(0, 0)", x.ifPile(0, 0), 1);
        beyond("ifPile(0, 2): the BOX is there", x.ifPile(0, 2), -2);
        beyond("ifPile(3, 3)", x.ifPile(3, 3), -2);
        sentence(29, "NOW may not STAND then");
        steps(x, 5);
        at("ifPile(0, 0): 3 FREE", x.ifPile(0, 0), 2);
        steps(x, 5);
        beyond("ifPile(0, 0): 3 FREE, 4 deep", x.ifPile(0, 0), -2);
        at("fewest(0): there is no BOX", x.fewest(0), 3);
        beyond("ifPile(0, 1): it doesn't STAND anyway", crane(STUCK).ifPile(3, 1), -2);
        SwingCrane full = crane("width 4;deep 2;top 1;swing 1;pile 0 2;start 3 1;spot a 0 1;spot b 3 2;");
        at("ifPile(0, 1): more than deep", full.ifPile(0, 1), 1);
        beyond("ifPile(0, 0)", full.ifPile(0, 0), -2);
        SwingCrane box = crane("width 4;deep 3;top 1;swing 1;pile 0 1;start 0 2;spot a 0 1;");
        inside("ifPile(0, 0): 1 FREE", box.ifPile(0, 0), -2);
        at("grab()", box.grab(), true);
        beyond("ifPile(0, 0): it HOLDS", box.ifPile(0, 0), -2);
        steps(box, 3);
        at("ifPile(0, 0): 2 FREE, for the load and its BOX", box.ifPile(0, 0), 0);
    }

    private static void reachAndSafe() {
        sentence(30, "NONE for another what");
        SwingCrane x = crane(SHAFT);
        int[] none = {-1, 3, 4, FAR[0], FAR[1]};
        for (int what : none) {
            beyond("reach(" + what + ")", x.reach(what), -1);
            beyond("reach(" + what + "): NONE goes ahead of -2", doomed().reach(what), -1);
        }
        sentence(30, "how many (0), to how many (1), the most STEPS (2; -2: to none)");
        int[][] want = {{4, 4, 2}, {9, 0, -2}, {17, 0, -2}, {1, 1, 0}, {0, 0, -2}};
        SwingCrane[] cranes = {x, crane(STUCK), doomed(), crane(CELL), crane("width 4;deep 2;block 0 3 0;")};
        for (int what = 0; what <= 2; what++) {
            at("reach(" + what + ") in a shaft", cranes[0].reach(what), want[0][what]);
            at("reach(" + what + "): it doesn't STAND", cranes[1].reach(what), want[1][what]);
            at("reach(" + what + "): doomed", cranes[2].reach(what), want[2][what]);
            at("reach(" + what + "): here alone", cranes[3].reach(what), want[3][what]);
            at("reach(" + what + "): none STANDS", cranes[4].reach(what), want[4][what]);
        }
        sentence(31, "NONE for another what");
        int[] other = {-1, 2, 3, FAR[0], FAR[1]};
        for (int what : other) {
            beyond("safe(" + what + ")", x.safe(what), -1);
        }
        sentence(31, "How many STATES STAND from which there is a WAY (what 0), and none (1)");
        at("safe(0): the rest, two that stop, one that comes back", crane(CELL).safe(0), 4);
        at("safe(1)", crane(CELL).safe(1), 14);
        at("safe(0): none STANDS", cranes[4].safe(0), 0);
        at("safe(1): none STANDS", cranes[4].safe(1), 0);
        SwingCrane same = doomed();
        at("safe(0): wherever NOW is", same.safe(0), crane(StepEdges.DOOMED).safe(0));
    }

    private static void bears() {
        sentence(32, "with each WIND from -w to w");
        int[] most = {0, 1, 2, 3, 4, 4, 4, 4, 4, 4, 4, 4, 3, 2, 1, 0};
        for (int column = 0; column < 16; column++) {
            at("bears() in column " + column, crane("start " + column + " 3;").bears(), most[column]);
        }
        for (int swing = 1; swing <= 4; swing++) {
            at("bears() by swing " + swing, crane("swing " + swing + ";start 8 3;").bears(), swing);
        }
        at("bears() in a shaft", crane(SHAFT).bears(), 0);
        sentence(32, "-2: not even with 0, NOW doesn't STAND");
        beyond("bears(): it can't be so", lastColumn().bears(), -2);
        beyond("bears(): no WAY behind it", doomed().bears(), -2);
        beyond("bears(): it doesn't STAND", crane(STUCK).bears(), -2);
        beyond("bears(): a WIND alone could free it", crane("block 8 8 0;start 8 1;").bears(), -2);
        sentence(32, "with each WIND, not with that told");
        for (int wind = -4; wind <= 4; wind++) {
            at("bears() in a WIND of " + wind, crane("start 8 3;wind 0 " + wind + ";").bears(), 4);
        }
    }

    /** By nothing it rolls out. */
    private static SwingCrane lastColumn() {
        SwingCrane x = crane("width 4;top 1;start 2 1;");
        steps(x, 7);
        return x;
    }

    private static void levelAndIfWind() {
        SwingCrane x = crane(SHAFT);
        sentence(35, "with HOIST none in all of them; -2: there is no WAY");
        at("level(1): it is there", x.level(1), 0);
        beyond("level(0): one higher", x.level(0), -2);
        beyond("level(2)", x.level(2), -2);
        beyond("level(3)", x.level(3), -2);
        at("level(0)", crane(LOT + "spot a 3 1;").level(0), 4);
        beyond("level(0): lowered at the end", crane(LOT + "spot a 3 2;").level(0), -2);
        beyond("level(1): it doesn't STAND", crane(STUCK).level(0), -2);
        beyond("level(0): no WAY", doomed().level(0), -2);
        for (int depth = 1; depth <= 6; depth++) {
            for (int column = 4; column <= 12; column += 4) {
                String text = "start 8 3;spot a " + column + " " + depth + ";";
                at("level(0) of '" + text + "'", crane(text).level(0), PlainAnswers.level(text, 0));
                at("level(0) of '" + text + "': at its DEPTH alone", crane(text).level(0) >= 0, depth == 3);
            }
        }
        String swaying = "start 8 3;wind 0 1;spot a 8 3;";
        SwingCrane longer = crane(swaying);
        steps(longer, 4);
        at("fewest(0): by HOISTS", longer.fewest(0), PlainAnswers.behindStep(swaying).fewest(0));
        at("level(0): without", longer.level(0), PlainAnswers.behindStep(swaying).level(0));
        sentence(36, "w -8 .. 8; NONE: no such ones");
        SwingCrane wind = crane("start 8 3;wind 0 4;spot a 8 3;");
        steps(wind, 4);
        int back = wind.fewest(0);
        at("fewest(0) with a SWAY of 4", back, 7);
        steps(wind, 4);
        int[] none = {-9, 9, 10, FAR[0], FAR[1]};
        for (int w : none) {
            beyond("ifWind(0, " + w + ")", wind.ifWind(0, w), -1);
        }
        at("ifWind(0, 8)", wind.ifWind(0, 8), back);
        at("ifWind(0, 4): it hangs still then", wind.ifWind(0, 4), 0);
        at("ifWind(0, 0)", wind.ifWind(0, 0), back);
        SwingCrane east = crane("start 8 3;wind 0 -4;spot a 8 3;");
        steps(east, 4, 4);
        at("ifWind(0, -8)", east.ifWind(0, -8), back);
        beyond("ifWind(0, -9)", east.ifWind(0, -9), -1);
        sentence(36, "-2: it can't be so, there is no WAY");
        beyond("ifWind(0, -1): a SWAY of -5", wind.ifWind(0, -1), -2);
        beyond("ifWind(0, -8)", wind.ifWind(0, -8), -2);
        beyond("ifWind(0, 8) at first", crane("start 8 3;spot a 8 3;").ifWind(0, 8), -2);
        beyond("ifWind(0, 0): it rolls out", crane("width 4;deep 2;block 0 3 0;spot a 0 1;").ifWind(0, 0), -2);
        beyond("ifWind(0, 0): no WAY behind it", doomed().ifWind(0, 0), -2);
        beyond("ifWind(3, 0)", x.ifWind(3, 0), -2);
        at("ifWind(0, 0): that STEP not among them", x.ifWind(0, 0), 1);
        beyond("ifWind(0, -1): the load is out", x.ifWind(0, -1), -2);
        beyond("ifWind(3, 9): NONE goes ahead of -2", x.ifWind(3, 9), -1);
        ifWindInAnother();
    }

    private static void ifWindInAnother() {
        sentence(36, "with a WIND w, not with that told");
        SwingCrane calm = crane("start 8 3;spot a 8 3;");
        for (int wind = -4; wind <= 4; wind++) {
            SwingCrane x = crane("start 8 3;spot a 8 3;wind 0 " + wind + ";");
            for (int w = -8; w <= 8; w++) {
                at("ifWind(0, " + w + ") in a WIND of " + wind, x.ifWind(0, w), calm.ifWind(0, w));
            }
        }
        sentence(36, "-2: it can't be so; if it can, NOW need not STAND");
        String text = "block 8 8 0;start 8 1;spot a 11 1;";
        SwingCrane free = crane(text);
        at("now(7)", free.now(7), 6);
        at("fewest(0): NOW doesn't STAND", free.fewest(0), -2);
        at("ifWind(0, 0): nothing changes", free.ifWind(0, 0), -2);
        at("ifWind(0, 1)", free.ifWind(0, 1), PlainAnswers.crane(text).ifWind(0, 1));
        at("ifWind(0, 1): blown free", free.ifWind(0, 1) > 0, true);
    }

    private static void nearestAndLeast() {
        sentence(37, "the first; -2: there is no WAY to any");
        at("nearest(): of equal ones", crane(LOT + "start 0 1;spot a 3 1;spot b 3 2;spot c 3 1;").nearest(), 0);
        at("nearest(): the last alone", crane(LOT + "block 2 2 0;spot a 2 1;spot b 2 2;spot c 0 2;").nearest(), 2);
        at("nearest(): it is there", crane("spot a 0 2;spot b 0 1;spot c 0 1;").nearest(), 1);
        beyond("nearest() without", new SwingCrane().nearest(), -2);
        SwingCrane hoists = crane("spot a 3 1;spot b 0 4;");
        at("least(0) is less", hoists.least(0) < hoists.least(1), true);
        at("nearest(): by FEWEST STEPS", hoists.nearest(), 1);
        beyond("nearest(): it doesn't STAND", crane(STUCK).nearest(), -2);
        beyond("nearest(): no WAY", doomed().nearest(), -2);
        SwingCrane x = crane(SHAFT);
        sentence(38, "-2: there is no WAY");
        at("least(1): it is there", x.least(1), 0);
        inside("least(0)", x.least(0), 1);
        inside("least(2)", x.least(2), 2);
        beyond("least(3)", x.least(3), -2);
        beyond("least(1): it doesn't STAND", crane(STUCK).least(1), -2);
        beyond("least(0): no WAY", doomed().least(0), -2);
        sentence(38, "PUSHES and HOISTS (neither none), all together");
        at("least(0): two PUSHES", crane(LOT + "spot a 3 1;").least(0), 2);
        at("least(0): and a HOIST", crane(LOT + "spot a 3 2;").least(0), 3);
        SwingCrane rolls = crane(LOT + "spot a 3 1;");
        steps(rolls, 7);
        at("least(0): what is left of them", rolls.least(0), 1);
    }

    private static void steadiest() {
        SwingCrane x = crane(SHAFT);
        sentence(39, "0: NOW is there");
        at("steadiest(1)", x.steadiest(1), 0);
        at("steadiest(0): by HOISTS", x.steadiest(0), 0);
        sentence(39, "w 0 .. swing");
        at("steadiest(0): swing 1", crane(LOT + "spot a 3 1;").steadiest(0), 1);
        String steep = "width 5;deep 3;top 2;swing #;start 4 3;block 1 2 1;spot a 0 2;";
        inside("steadiest(0): 2 of 3", crane(steep.replace('#', '3')).steadiest(0), 2);
        at("steadiest(0): 2 of 2", crane(steep.replace('#', '2')).steadiest(0), 2);
        beyond("steadiest(0): 2 of 1", crane(steep.replace('#', '1')).steadiest(0), -2);
        sentence(39, "-2: there is no WAY");
        beyond("steadiest(3)", x.steadiest(3), -2);
        beyond("steadiest(0): it doesn't STAND", crane(STUCK).steadiest(1), -2);
        beyond("steadiest(0): no WAY", doomed().steadiest(0), -2);
        sentence(39, "behind each of which SWAY is no more than w");
        SwingCrane sways = crane("start 8 3;wind 0 4;spot a 8 3;");
        steps(sways, 4);
        at("now(2)", sways.now(2), 4);
        at("steadiest(0): what it sways NOW isn't asked for", sways.steadiest(0), 2);
        SwingCrane other = crane("start 8 3;wind 0 -4;spot a 8 3;");
        steps(other, 4);
        at("now(2)", other.now(2), -4);
        at("steadiest(0): without sign", other.steadiest(0), 2);
    }

    /** The ways to the west and to the east; NOW sways already, if a wind has pushed it. */
    private static void alongBoth(String text, boolean swaying) {
        String all = text + "spot a 4 3;spot b 6 2;spot c 8 3;spot d 10 2;spot e 12 3;spot f 15 1;";
        SwingCrane x = crane(all);
        PlainCrane plain = PlainAnswers.crane(all);
        if (swaying) {
            steps(x, 4);
            plain = PlainAnswers.behindStep(all);
        }
        for (int spot = 0; spot < 6; spot++) {
            for (int what = 0; what <= 4; what++) {
                at("along(" + spot + ", " + what + ") of '" + text + "'", x.along(spot, what),
                        plain.along(spot, what));
            }
        }
    }

    private static void along() {
        SwingCrane x = crane(SHAFT);
        sentence(40, "what 0 .. 4; -99: no such ones");
        int[] none = {-1, 5, 6, FAR[0], FAR[1]};
        for (int what : none) {
            beyond("along(0, " + what + ")", x.along(0, what), -99);
            beyond("along(3, " + what + "): it goes ahead of -2", x.along(3, what), -99);
        }
        int[][] want = {{0, 0, 0, 1, 3}, {0, 0, 0, 0, 2}, {0, 0, 0, 2, 0}, {-2, -2, -2, -2, -2}};
        for (int spot = 0; spot < 4; spot++) {
            sentence(40, spot == 1 ? "0 STEPS: NOW's" : spot == 3 ? "-2: there is no WAY" : "behind each STEP");
            for (int what = 0; what <= 4; what++) {
                at("along(" + spot + ", " + what + ")", x.along(spot, what), want[spot][what]);
            }
        }
        sentence(40, "-2: there is no WAY");
        for (int what = 0; what <= 4; what++) {
            beyond("along(1, " + what + "): it doesn't STAND", crane(STUCK).along(1, what), -2);
            beyond("along(0, " + what + ")", doomed().along(0, what), -2);
        }
        sentence(40, "without sign");
        alongBoth("start 8 3;", false);
        alongBoth("deep 5;swing 2;start 8 5;", false);
        sentence(40, "behind each STEP, not NOW's");
        alongBoth("start 8 3;wind 0 4;", true);
        alongBoth("start 8 3;wind 0 -4;", true);
        alongBoth("start 8 1;wind 0 -2;", true);
        sentence(40, "behind each STEP, not ahead of the first");
        SwingCrane rolls = crane("width 4;deep 3;top 1;swing 1;start 0 3;spot a 0 2;spot b 0 1;");
        at("along(0, 4): not NOW's 0", rolls.along(0, 4), 1);
        at("along(1, 4)", rolls.along(1, 4), 1);
        SwingCrane stops = crane(LOT + "spot a 3 1;");
        steps(stops, 7, 4, 4);
        dueNow(stops, 3, 1, 0, 1, 1);
        at("fewest(0)", stops.fewest(0), 1);
        at("along(0, 1): not NOW's 1", stops.along(0, 1), 0);
        at("along(0, 0)", stops.along(0, 0), 0);
        at("along(0, 2)", stops.along(0, 2), 1);
        alongWithBox();
    }

    private static void alongWithBox() {
        sentence(40, "the least of FREE less DEPTH of the load in its COLUMN");
        SwingCrane x = crane("pile 0 5;spot a 3 1;spot b 0 1;spot c 0 2;");
        at("along(0, 4): back over 1 FREE", x.along(0, 4), 0);
        at("along(1, 4): 0 STEPS", x.along(1, 4), 0);
        at("grab()", x.grab(), true);
        at("along(0, 4): back over 2 FREE, the load 1 deep, whatever it HOLDS", x.along(0, 4), 1);
        at("along(1, 4): 0 STEPS", x.along(1, 4), 1);
        String wall = "width 9;deep 6;block 0 4 2;start 4 1;spot a 6 5;";
        at("along(0, 4): behind each STEP", crane(wall).along(0, 4), PlainAnswers.crane(wall).along(0, 4));
    }

    /** 1 FREE under the crane; a BOX passes below the block at DEPTH 1 alone. */
    private static final String LOADED = "width 8;deep 4;top 2;swing 3;block 3 4 2;pile 0 3;spot a 1 2;spot b 6 2;"
            + "spot c 3 2;spot d 7 3;";

    private static void dueAsPlain(int number, String call, long got, long want) {
        promise = number;
        at(call, got, want);
    }

    /** Ways are those of a crane that HOLDS, as long as it does, from NOW and from spots. */
    private static void withBox() {
        sentence(19, "whether it HOLDS a BOX is the same for all STATES at a time");
        SwingCrane x = crane(LOADED);
        PlainCrane plain = PlainAnswers.crane(LOADED);
        int without = x.between(0, 1);
        at("grab()", x.grab(), plain.grab());
        dueAsPlain(23, "between(0, 1) is longer with a BOX", x.between(0, 1) > without ? 1 : 0, 1);
        dueAsPlain(19, "fewest(2): it doesn't STAND with a BOX", x.fewest(2), -2);
        int[] rows = {4, 7, 4};
        for (int code : rows) {
            steps(x, code);
            plain.step(code / 3 - 1, code % 3 - 1);
            for (int spot = 0; spot < 4; spot++) {
                dueAsPlain(19, "fewest(" + spot + ")", x.fewest(spot), plain.fewest(spot));
                dueAsPlain(20, "by(" + spot + ", 1)", x.by(spot, 1), plain.by(spot, 1));
                dueAsPlain(25, "stop(" + spot + ")", x.stop(spot), plain.stop(spot));
                dueAsPlain(29, "ifPile(6, " + spot + ")", x.ifPile(6, spot), plain.ifPile(6, spot));
                dueAsPlain(35, "level(" + spot + ")", x.level(spot), plain.level(spot));
                dueAsPlain(36, "ifWind(" + spot + ", 1)", x.ifWind(spot, 1), plain.ifWind(spot, 1));
                dueAsPlain(38, "least(" + spot + ")", x.least(spot), plain.least(spot));
                dueAsPlain(39, "steadiest(" + spot + ")", x.steadiest(spot), plain.steadiest(spot));
                dueAsPlain(40, "along(" + spot + ", 4)", x.along(spot, 4), plain.along(spot, 4));
                for (int other = 0; other < 4; other++) {
                    dueAsPlain(23, "between(" + spot + ", " + other + ")", x.between(spot, other),
                            plain.between(spot, other));
                }
            }
            dueAsPlain(21, "halt()", x.halt(), plain.halt());
            dueAsPlain(22, "rests(0)", x.rests(0), plain.rests(0));
            dueAsPlain(24, "tour()", x.tour(), plain.tour());
            dueAsPlain(30, "reach(1)", x.reach(1), plain.reach(1));
            dueAsPlain(31, "safe(0)", x.safe(0), plain.safe(0));
            dueAsPlain(32, "bears()", x.bears(), plain.bears());
            dueAsPlain(37, "nearest()", x.nearest(), plain.nearest());
        }
    }

    static void run() {
        withBox();
        noSuchSpot();
        spotsOfAnEarlierText();
        sixSpots();
        fewestAndBy();
        haltAndRests();
        between();
        tourAndStop();
        carry();
        jobs();
        ifPile();
        reachAndSafe();
        bears();
        levelAndIfWind();
        nearestAndLeast();
        steadiest();
        along();
    }
}
