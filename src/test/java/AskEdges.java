/**
 * What is asked is answered by NOW, the PILES and whether it HOLDS as they are then, whatever was asked ahead: a crane
 * that is asked everything at each moment, and for each answer a new one that goes to that moment unasked.
 */
final class AskEdges extends Edges {
    private static final String YARD = "width 7;deep 4;top 2;swing 2;block 2 2 3;start 0 2;spot a 5 1;spot b 6 2;"
            + "spot c 0 1;pile 0 2;pile 6 1;job 0 3;job 6 4;job 0 4;wind 6 1;do lift 1;do still 2;do east 1;do still 8;"
            + "seed 5;";
    private static final String OTHER = "width 5;deep 3;top 1;swing 1;spot a 4 2;spot b 0 3;spot c 3 1;pile 4 1;"
            + "job 4 0;job 0 4;do wait 2;";
    /** The promise of each question. */
    private static final int[] PROMISE = {19, 20, 21, 22, 22, 23, 24, 25, 26, 27, 28, 29, 30, 30, 30, 31, 31, 32, 35,
        36, 37, 38, 39, 40, 40, 40, 40, 40, 43, 43, 8, 12, 13, 15, 16, 17, 18};
    private static final int SPOTS = 3;
    private static final int MOMENTS = 13;

    private AskEdges() {
    }

    private static int ask(SwingCrane x, int question, int i) {
        return switch (question) {
            case 0 -> x.fewest(i);
            case 1 -> x.by(i, 1);
            case 2 -> x.halt();
            case 3, 4 -> x.rests(question - 3);
            case 5 -> x.between(i, (i + 1) % SPOTS);
            case 6 -> x.tour();
            case 7 -> x.stop(i);
            case 8 -> x.carry(2 * i, 3);
            case 9 -> x.jobs();
            case 10 -> x.job(i);
            case 11 -> x.ifPile(2 * i, i);
            case 12, 13, 14 -> x.reach(question - 12);
            case 15, 16 -> x.safe(question - 15);
            case 17 -> x.bears();
            case 18 -> x.level(i);
            case 19 -> x.ifWind(i, i - 1);
            case 20 -> x.nearest();
            case 21 -> x.least(i);
            case 22 -> x.steadiest(i);
            case 23, 24, 25, 26, 27 -> x.along(i, question - 23);
            case 28 -> x.chance(7 * i, 20, 0);
            case 29 -> x.chance(-1, 3 + i, 2);
            case 30 -> x.now(7);
            case 31 -> x.free(2 * i);
            case 32 -> x.gap(i, 2 * i + 1);
            case 33 -> x.why(4 + i);
            case 34 -> x.can();
            case 35 -> x.sway(i);
            default -> x.drift();
        };
    }

    /** From each moment to the next one; the first is the TEXT. */
    private static void go(SwingCrane x, int moment) {
        switch (moment) {
            case 0 -> tell(x, YARD);
            case 1 -> x.grab();
            case 2 -> x.step(0, -1);
            case 3 -> x.undo();
            case 4 -> x.drop();
            case 5 -> x.keep();
            case 6 -> x.flow(6);
            case 7 -> x.back();
            case 8 -> x.grab();
            case 9 -> x.flow(5);
            case 10 -> x.back();
            case 11 -> tell(x, OTHER);
            default -> x.step(1, 0);
        }
    }

    /** Every question at every moment, in an order that the stride makes, and once more from the first one on. */
    private static int[][] askedEverything(int stride) {
        SwingCrane x = new SwingCrane();
        int all = PROMISE.length * SPOTS;
        int[][] answers = new int[MOMENTS][all];
        for (int moment = 0; moment < MOMENTS; moment++) {
            go(x, moment);
            for (int k = 0; k < all; k++) {
                int question = (17 * moment + stride * k) % all;
                answers[moment][question] = ask(x, question / SPOTS, question % SPOTS);
            }
            for (int question = 0; question < all; question++) {
                promise = PROMISE[question / SPOTS];
                due("question " + question / SPOTS + " asked again", ask(x, question / SPOTS, question % SPOTS),
                        answers[moment][question]);
            }
        }
        return answers;
    }

    private static SwingCrane unasked(int moment) {
        SwingCrane x = new SwingCrane();
        for (int i = 0; i <= moment; i++) {
            go(x, i);
        }
        return x;
    }

    static void run() {
        int[][][] asked = {askedEverything(1), askedEverything(110), askedEverything(50)};
        for (int question = 0; question < PROMISE.length; question++) {
            sentence(PROMISE[question], "of NOW, PILES and whether it HOLDS, as they are then");
            for (int moment = 0; moment < MOMENTS; moment++) {
                for (int i = 0; i < SPOTS; i++) {
                    int want = ask(unasked(moment), question, i);
                    for (int[][] answers : asked) {
                        at("question " + question + " (" + i + ") at moment " + moment,
                                answers[moment][SPOTS * question + i], want);
                    }
                }
            }
        }
        sentence(9, "whether it HOLDS a BOX is the same for all of them at a time");
        at("safe(0) changes by GRAB", asked[0][0][SPOTS * 15] != asked[0][1][SPOTS * 15], true);
        at("fewest(0) changes by GRAB", asked[0][0][0] != asked[0][1][0], true);
        sentence(10, "whether it HOLDS a BOX is the same for all of them at a time");
        at("safe(0) changes by DROP", asked[0][3][SPOTS * 15] != asked[0][4][SPOTS * 15], true);
        at("safe(0) is as ahead of GRAB", asked[0][4][SPOTS * 15], asked[0][0][SPOTS * 15]);
    }
}
