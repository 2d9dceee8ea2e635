/** Single answers of PlainCrane, where they are too long to be worked out by hand. */
final class PlainAnswers {
    private PlainAnswers() {
    }

    static PlainCrane crane(String text) {
        PlainCrane plain = new PlainCrane();
        for (int i = 0; i < text.length(); i += 20) {
            int[] five = new int[5];
            for (int k = 0; k < 20; k++) {
                five[k / 4] = five[k / 4] << 8 | (i + k < text.length() ? text.charAt(i + k) : ' ');
            }
            plain.feed(five[0], five[1], five[2], five[3], five[4]);
        }
        plain.text(text.length());
        return plain;
    }

    static int carry(String text, int from, int to) {
        return crane(text).carry(from, to);
    }

    static int fewest(String text, int spot) {
        return crane(text).fewest(spot);
    }

    static int level(String text, int spot) {
        return crane(text).level(spot);
    }

    static int job(String text, int i) {
        return crane(text).job(i);
    }

    /** The crane behind a step of nothing, which a wind may push. */
    static PlainCrane behindStep(String text) {
        PlainCrane plain = crane(text);
        plain.step(0, 0);
        return plain;
    }

    static int steadiestBehindStep(String text, int spot) {
        return behindStep(text).steadiest(spot);
    }

    static int pulses(int depth, int n, int d) {
        return new PlainCrane().pulses(depth, n, d);
    }

    static int shortest(int depth, int d) {
        return new PlainCrane().shortest(depth, d);
    }

    static int chance(String text, int seed, int n, int what) {
        return crane(text).chance(seed, n, what);
    }
}
