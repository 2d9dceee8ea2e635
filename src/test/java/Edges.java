import java.util.function.IntSupplier;

/** A sentence of the document that names an edge, and what is due just inside it, at it and just beyond it. */
abstract class Edges extends Due {
    private static final boolean[] HAS_SENTENCE = new boolean[48];
    private static String sentence = "";
    static int sentences;
    static int cases;

    /** The cases that follow belong to this sentence of this promise. */
    static void sentence(int number, String words) {
        promise = number;
        sentence = words;
        sentences++;
        HAS_SENTENCE[number] = true;
    }

    /** The first promise without a sentence; 0: each has one. */
    static int promiseWithout() {
        for (int number = 1; number < HAS_SENTENCE.length; number++) {
            if (!HAS_SENTENCE[number]) {
                return number;
            }
        }
        return 0;
    }

    private static String named(String where, String call) {
        cases++;
        return "'" + sentence + "', " + where + ": " + call;
    }

    static void inside(String call, long got, long want) {
        due(named("just inside", call), got, want);
    }

    static void inside(String call, boolean got, boolean want) {
        due(named("just inside", call), got, want);
    }

    static void at(String call, long got, long want) {
        due(named("at the edge", call), got, want);
    }

    static void at(String call, boolean got, boolean want) {
        due(named("at the edge", call), got, want);
    }

    static void beyond(String call, long got, long want) {
        due(named("just beyond", call), got, want);
    }

    static void beyond(String call, boolean got, boolean want) {
        due(named("just beyond", call), got, want);
    }

    /** Beyond the edge: refused by this answer, and nothing has changed. */
    static void stays(SwingCrane x, String call, IntSupplier asked, int want) {
        refused(x, named("just beyond", call), asked, want);
    }

    /** Beyond the edge of what a text may tell. */
    static void faulty(String text, int kind, int place) {
        String of = named("just beyond", "of '" + text + "'");
        SwingCrane x = new SwingCrane();
        due(of + " text", tell(x, text), -1);
        due(of + " fault(0)", x.fault(0), kind);
        due(of + " fault(1)", x.fault(1), place);
    }

    /** At the edge of what a text may tell, or inside it. */
    static SwingCrane told(String text) {
        SwingCrane x = new SwingCrane();
        at("text of '" + text + "'", tell(x, text), linesOf(text));
        at("fault(0) of '" + text + "'", x.fault(0), 0);
        at("fault(1) of '" + text + "'", x.fault(1), -1);
        return x;
    }

    static int bit(boolean holds) {
        return holds ? 1 : 0;
    }
}
