import java.util.NoSuchElementException;
import java.util.function.IntSupplier;

/** What the tests of the promises share: how a crane is told, moved and looked at, and what is due. */
abstract class Due {
    static int wrong;
    static int promise;

    static void due(String call, long got, long want) {
        if (got != want) {
            wrong++;
            System.out.println("promise " + promise + ": " + call + " answered " + got + ", due is " + want);
        }
    }

    static void due(String call, boolean got, boolean want) {
        due(call, got ? 1 : 0, want ? 1 : 0);
    }

    static int feedAll(SwingCrane x, String text) {
        int has = x.count(10);
        for (int i = 0; i < text.length(); i += 20) {
            int[] five = new int[5];
            for (int k = 0; k < 20; k++) {
                int sign = i + k < text.length() ? text.charAt(i + k) & 255 : 32;
                five[k / 4] = five[k / 4] << 8 | sign;
            }
            has = x.feed(five[0], five[1], five[2], five[3], five[4]);
        }
        return has;
    }

    static int tell(SwingCrane x, String text) {
        feedAll(x, text);
        return x.text(text.length());
    }

    static int linesOf(String text) {
        return (int) text.chars().filter(sign -> sign == ';').count();
    }

    static SwingCrane crane(String text) {
        SwingCrane x = new SwingCrane();
        due("text of '" + text + "'", tell(x, text), linesOf(text));
        return x;
    }

    static int letters(String name) {
        int packed = 0;
        for (int i = 0; i < 6; i++) {
            packed = packed << 5 | (i < name.length() ? name.charAt(i) - 'a' + 1 : 0);
        }
        return packed;
    }

    static void dueNow(SwingCrane x, int column, int speed, int sway, int last, int depth) {
        due("now(0)", x.now(0), column);
        due("now(1)", x.now(1), speed);
        due("now(2)", x.now(2), sway);
        due("now(3)", x.now(3), last);
        due("now(4)", x.now(4), depth);
    }

    static void dueFault(String text, int kind, int place) {
        SwingCrane x = new SwingCrane();
        due("text of '" + text + "'", tell(x, text), -1);
        due("fault(0) of '" + text + "'", x.fault(0), kind);
        due("fault(1) of '" + text + "'", x.fault(1), place);
    }

    static void steps(SwingCrane x, int... codes) {
        for (int code : codes) {
            int tick = x.count(7);
            due("step by code " + code, x.step(code / 3 - 1, code % 3 - 1), tick + 1);
        }
    }

    /** 0: now answers; 1: IndexOutOfBoundsException; 2: NoSuchElementException. */
    static int thrown(SwingCrane x, int what) {
        try {
            x.now(what);
            return 0;
        } catch (IndexOutOfBoundsException e) {
            return 1;
        } catch (NoSuchElementException e) {
            return 2;
        }
    }

    /** Goes the way to a spot and stays there. */
    static SwingCrane follow(SwingCrane x, int spot) {
        for (int left = x.fewest(spot); left > 0; left--) {
            steps(x, x.by(spot, 0));
        }
        return x;
    }

    /** All that can be seen without a search and without a change. */
    static String look(SwingCrane x) {
        StringBuilder seen = new StringBuilder();
        for (int what = 0; what <= 8; what++) {
            seen.append(x.now(what)).append(' ');
        }
        for (int what = 0; what <= 12; what++) {
            seen.append(x.count(what)).append(' ');
        }
        for (int column = 0; column < 16; column++) {
            seen.append(x.pile(column)).append('/').append(x.free(column)).append(' ');
        }
        for (int k = 0; k < 40; k++) {
            seen.append(x.log(k, 0)).append('/').append(x.log(k, 1)).append('/').append(x.log(k, 2)).append(' ');
        }
        return seen.append(x.fault(0)).append(' ').append(x.fault(1)).toString();
    }

    /** The call is refused by this answer, and nothing has changed. */
    static void refused(SwingCrane x, String call, IntSupplier asked, int want) {
        String before = look(x);
        due(call, asked.getAsInt(), want);
        due(call + " changes nothing", before.equals(look(x)), true);
    }
}
