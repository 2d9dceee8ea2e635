import java.util.List;

/** The edges of what a text may tell, and of promises 1 to 5. */
final class TextEdges extends Edges {
    private static final String[] LANGUAGE = {"width", "deep", "top", "swing", "block", "spot", "start", "wind", "do",
        "pile", "job", "seed", "east", "west", "lift", "lower", "wait", "still"};
    private static final String[] ORDERS = {"east", "west", "lift", "lower", "wait", "still"};
    /** One LINE of each kind, its tokens apart. */
    private static final String[] FORMS = {"width 9 ;", "deep 5 ;", "top 1 ;", "swing 3 ;", "block 1 2 3 ;",
        "spot nest 4 5 ;", "start 3 2 ;", "wind 7 2 ;", "do east 5 ;", "pile 2 3 ;", "job 5 6 ;", "seed 77 ;"};
    private static final int[] WRAPPED = {4, 2, 1};

    /** What a crane was told, as it can be seen. */
    private interface Seen {
        int of(SwingCrane x, int number);
    }

    private TextEdges() {
    }

    /** Numbers low .. high may stand between the two parts of the text; those around them are FAULT 2. */
    private static void range(String ahead, int low, int high, String behind, Seen seen) {
        int[] within = {low, Math.min(low + 1, high), Math.max(high - 1, low), high};
        for (int number : within) {
            String text = ahead + number + behind;
            at("what '" + text + "' tells", seen.of(told(text), number), number);
        }
        if (low > 0) {
            faulty(ahead + (low - 1) + behind, 2, ahead.length());
        }
        faulty(ahead + (high + 1) + behind, 2, ahead.length());
        for (int small : WRAPPED) {
            faulty(ahead + ((1L << 32) + Math.max(low, small)) + behind, 2, ahead.length());
        }
        faulty(ahead + "18446744073709551620" + behind, 2, ahead.length());
        faulty(ahead + "2147483648" + behind, 2, ahead.length());
        faulty(ahead + "99999999999999999999999999999999" + behind, 2, ahead.length());
    }

    private static void headNumbers() {
        sentence(3, "width: 4 .. 16 COLUMNS");
        range("width ", 4, 16, ";", (x, n) -> x.count(0));
        sentence(3, "deep: 2 .. 6");
        range("deep ", 2, 6, ";", (x, n) -> x.count(1));
        sentence(3, "top: 1 .. 2");
        range("top ", 1, 2, ";", (x, n) -> x.count(2));
        sentence(3, "swing: 1 .. 4");
        range("swing ", 1, 4, ";", (x, n) -> x.count(3));
        sentence(3, "seed: 0 .. 99999");
        range("seed ", 0, 99999, ";", (x, n) -> x.chance(-1, 60, 2) == x.chance(n, 60, 2) ? n : -1);
        sentence(3, "width (16), deep (6), top (2), swing (4), start (0, 1), seed (0)");
        SwingCrane x = told("spot a 5 5;");
        int[] without = {16, 6, 2, 4};
        for (int what = 0; what < without.length; what++) {
            at("count(" + what + ")", x.count(what), without[what]);
        }
        at("now(0)", x.now(0), 0);
        at("now(4)", x.now(4), 1);
        at("free(15)", x.free(15), 6);
        for (int n = 1; n <= 60; n++) {
            at("chance(-1, " + n + ", 2)", x.chance(-1, n, 2), x.chance(0, n, 2));
        }
    }

    private static void blockNumbers() {
        sentence(3, "block: COLUMNS from the first N (there)");
        range("width 6;block ", 0, 5, " 5 1;", (x, n) -> x.free(n) == 1 && (n == 0 || x.free(n - 1) == 6) ? n : -1);
        sentence(3, "block: to the second one (both there)");
        range("width 6;block 2 ", 2, 5, " 1;", (x, n) -> x.free(n) == 1 && (n == 5 || x.free(n + 1) == 6) ? n : -1);
        range("block 15 ", 15, 15, " 1;", (x, n) -> x.free(15) == 1 && x.free(14) == 6 ? n : -1);
        sentence(3, "block: free to a DEPTH 0 .. deep");
        range("deep 4;block 0 0 ", 0, 4, ";", (x, n) -> x.free(0));
        range("block 0 15 ", 0, 6, ";", (x, n) -> x.gap(0, 15));
    }

    private static void spotAndStartNumbers() {
        sentence(3, "spot: a COLUMN that is there");
        range("width 7;spot a ", 0, 6, " 1;", (x, n) -> follow(x, 0).now(0));
        range("spot a ", 0, 15, " 1;", (x, n) -> follow(x, 0).now(0));
        sentence(3, "spot: a DEPTH 1 .. deep");
        range("deep 3;spot a 0 ", 1, 3, ";", (x, n) -> follow(x, 0).now(4));
        range("spot a 0 ", 1, 6, ";", (x, n) -> follow(x, 0).now(4));
        sentence(3, "start: a COLUMN likewise");
        range("width 7;start ", 0, 6, " 1;", (x, n) -> x.now(0));
        range("start ", 0, 15, " 1;", (x, n) -> x.now(0));
        sentence(3, "start: a DEPTH likewise");
        range("deep 3;start 0 ", 1, 3, ";", (x, n) -> x.now(4));
        range("start 0 ", 1, 6, ";", (x, n) -> x.now(4));
    }

    private static void windNumbers() {
        sentence(3, "wind: at a TICK 0 .. 999");
        range("wind ", 0, 999, " 3;", (x, n) -> x.wind(n) == 3 ? n : -1);
        sentence(3, "wind: later than that of the wind told ahead");
        range("wind 5 1;wind ", 6, 999, " 3;", (x, n) -> x.wind(n) == 3 && x.wind(5) == 1 ? n : -1);
        range("wind 0 1;wind 998 2;wind ", 999, 999, " 3;", (x, n) -> x.wind(n) == 3 ? n : -1);
        faulty("wind 999 1;wind 1000 1;", 2, 16);
        sentence(3, "wind: -4 .. 4");
        range("wind 8 ", 0, 4, ";", (x, n) -> x.wind(8));
        range("wind 8 -", 0, 4, ";", 7);
        String[] noSigns = {"+", ".", "/", "_", "=", "~", ",", "!"};
        for (String sign : noSigns) {
            faulty("wind 8 " + sign + "1;", 1, 7);
        }
        faulty("wind 8 1;1;", 1, 9);
        at("wind(8) of -0", told("wind 8 -0;").wind(8), 0);
        at("wind(8) of -004", told("wind 8-004;").wind(8), -4);
    }

    /** The same with a '-' right ahead of the number; the fault's place is that of the '-'. */
    private static void range(String ahead, int low, int high, String behind, int place) {
        for (int number = low; number <= high; number++) {
            String text = ahead + number + behind;
            at("what '" + text + "' tells", told(text).wind(8), -number);
        }
        faulty(ahead + (high + 1) + behind, 2, place);
        faulty(ahead + ((1L << 32) + low) + behind, 2, place);
        faulty(ahead + "2147483648" + behind, 2, place);
    }

    private static void orderNumbers() {
        sentence(3, "do: an ORDER, 1 .. 30 times");
        range("do wait ", 1, 30, ";", (x, n) -> x.flow(40));
        for (String order : ORDERS) {
            at("count(5) of " + order, told("do " + order + " 1;").count(5), 1);
        }
        faulty("do up 1;", 1, 3);
        faulty("do eas 1;", 1, 3);
        faulty("do easts 1;", 1, 3);
        faulty("do seed 1;", 1, 3);
        faulty("do do 1;", 1, 3);
        faulty("do 1;", 1, 3);
    }

    private static void pileAndJobNumbers() {
        sentence(3, "pile: of a COLUMN");
        range("width 7;pile ", 0, 6, " 2;", (x, n) -> x.pile(n) == 2 && x.count(12) == 2 ? n : -1);
        range("pile ", 0, 15, " 2;", (x, n) -> x.pile(n) == 2 ? n : -1);
        sentence(3, "pile: 1 .. deep BOXES");
        range("deep 3;pile 0 ", 1, 3, ";", (x, n) -> x.pile(0));
        range("pile 0 ", 1, 6, ";", (x, n) -> x.count(12));
        sentence(3, "job: from a COLUMN");
        range("width 7;pile 0 2;pile 1 1;pile 5 1;pile 6 2;job ", 0, 6, " 3;",
                (x, n) -> x.jobs() == x.carry(n, 3) ? n : -1);
        sentence(3, "job: to another one");
        range("width 7;pile 0 1;job 0 ", 1, 6, ";", (x, n) -> x.jobs() == x.carry(0, n) ? n : -1);
        faulty("job 3 3;", 2, 6);
        faulty("job 0 0;", 2, 6);
        faulty("job 15 15;", 2, 7);
        faulty("job 16 16;", 2, 4);
        at("count(11)", told("job 3 2;").count(11), 1);
        at("count(11)", told("job 3 4;").count(11), 1);
    }

    private static String many(String line, int times) {
        StringBuilder text = new StringBuilder();
        for (int i = 0; i < times; i++) {
            text.append(line.replace("#", String.valueOf(i)).replace("@", String.valueOf((char) ('a' + i))));
        }
        return text.toString();
    }

    /** So many LINES of a kind may be told; one more is FAULT 2 at its word, whatever comes behind it. */
    private static void atMost(int promised, String line, int what) {
        String[] words = line.split(" ");
        SwingCrane one = told(many(line, promised - 1));
        SwingCrane all = told(many(line, promised));
        if (what >= 0) {
            inside("count(" + what + ")", one.count(what), promised - 1);
            at("count(" + what + ")", all.count(what), promised);
        }
        String full = many(line, promised);
        faulty(many(line, promised + 1), 2, full.length());
        faulty(full + " \n" + words[0], 2, full.length() + 2);
        faulty(full + words[0] + " - - -;", 2, full.length());
        faulty(full + line.replace("#", "0").replace("@", "a"), 2, full.length());
    }

    private static void howMany() {
        sentence(3, "block, at most 6");
        atMost(6, "block # # #;", -1);
        for (int column = 0; column < 6; column++) {
            at("free(" + column + ")", told(many("block # # #;", 6)).free(column), column);
        }
        sentence(3, "spot, at most 6");
        atMost(6, "spot @ # 1;", 4);
        sentence(3, "wind, at most 8");
        atMost(8, "wind # 1;", -1);
        at("wind(7)", told(many("wind # 1;", 8)).wind(7), 1);
        sentence(3, "do, at most 16");
        atMost(16, "do wait 1;", 5);
        sentence(3, "pile, at most 8");
        atMost(8, "pile # 1;", 12);
        sentence(3, "job, at most 3");
        atMost(3, "job # 9;", 11);
        sentence(3, "width, deep, top, swing, start, seed: once");
        String[] once = {"width 4;", "deep 2;", "top 1;", "swing 1;", "start 0 1;", "seed 0;"};
        for (String line : once) {
            told(line);
            faulty(line + line, 3, line.length());
            faulty(line + " " + line.split(" ")[0], 3, line.length() + 1);
        }
    }

    private static void words() {
        sentence(3, "W: one of 1 .. 6 letters");
        at("named(a)", told("spot a 1 1;").named(letters("a")), 0);
        at("named(z)", told("spot z 1 1;").named(letters("z")), 0);
        inside("named(abcde)", told("spot abcde 1 1;").named(letters("abcde")), 0);
        at("named(abcdef)", told("spot abcdef 1 1;").named(letters("abcdef")), 0);
        faulty("spot abcdefg 1 1;", 1, 5);
        faulty("spot zzzzzzzzzzzzzzzzzzzzzzzzzzzzzzzzzzz 1 1;", 1, 5);
        faulty("spot 1 1;", 1, 5);
        faulty("spot ; 1 1;", 1, 5);
        sentence(3, "W: none of those of the language (ORDERS, too)");
        for (String word : LANGUAGE) {
            faulty("spot " + word + " 1 1;", 1, 5);
            told("spot " + word + "x 1 1;");
            told("spot x" + word + " 1 1;");
            told("spot " + word.substring(1) + " 1 1;");
            if (!word.equals("do")) {
                told("spot " + word.substring(0, word.length() - 1) + " 1 1;");
            }
        }
        sentence(4, "a word of more than 6 letters that isn't of the language");
        faulty("widthwi 4;", 1, 0);
        faulty("do eastwest 1;", 1, 3);
        faulty("width four;", 1, 6);
        faulty("width fourteen;", 1, 6);
        sentence(3, "Words: small letters in a row");
        faulty("Width 4;", 1, 0);
        faulty("widTh 4;", 1, 0);
        faulty("wid th 4;", 1, 0);
        faulty("spot A 1 1;", 1, 5);
        faulty("spot a{ 1 1;", 1, 6);
        faulty("spot a` 1 1;", 1, 6);
        faulty("spot @ 1 1;", 1, 5);
        faulty("spot [ 1 1;", 1, 5);
        faulty("east 1;", 1, 0);
        faulty("4 width;", 1, 0);
    }

    private static void digitsAndBlanks() {
        sentence(3, "N: digits");
        at("count(0) of 007", told("width 007;").count(0), 7);
        at("count(0) of many zeros", told("width 000000000000000000000000000000000016;").count(0), 16);
        faulty("width 0;", 2, 6);
        faulty("width 00000000000;", 2, 6);
        faulty("width /;", 1, 6);
        faulty("width :;", 1, 6);
        faulty("width 1/;", 2, 6);
        faulty("width 5:;", 1, 7);
        faulty("width 5 5;", 1, 8);
        faulty("width 5.5;", 1, 7);
        faulty("width +5;", 1, 6);
        sentence(3, "Blanks 10, 32");
        at("lines", tell(new SwingCrane(), "\n width\n\n  5 \n; \n"), 1);
        at("lines without blanks", tell(new SwingCrane(), "width5;deep3;spot a1 1;wind 1-1;do wait3;"), 5);
        char[] others = {0, 1, 9, 11, 12, 13, 31, 33, 127, 128, 160, 255, 138};
        for (char sign : others) {
            faulty(sign + "width 5;", 1, 0);
            faulty("width" + sign + "5;", 1, 5);
            faulty("width 5" + sign + ";", 1, 7);
            faulty("width 5;" + sign, 1, 8);
        }
        sentence(3, "A TEXT: { LINE ';' }");
        at("no LINES", tell(new SwingCrane(), ""), 0);
        at("blanks alone", tell(new SwingCrane(), "  \n"), 0);
        faulty(";", 1, 0);
        faulty("width 5;;", 1, 8);
        faulty("width 5 deep 3;", 1, 8);
        faulty("width 5; ;", 1, 9);
    }

    /** Behind each token but the last one more must come, and nothing else can stand in its place. */
    private static void tokensOfEachLine() {
        for (String form : FORMS) {
            sentence(4, "the length, if more must come: " + form);
            told(form);
            String[] tokens = form.split(" ");
            StringBuilder ahead = new StringBuilder();
            for (int i = 0; i < tokens.length; i++) {
                if (i > 0) {
                    faulty(ahead.toString(), 1, ahead.length());
                    faulty(ahead.substring(0, ahead.length() - 1), 1, ahead.length() - 1);
                    faulty(ahead + "\n  ", 1, ahead.length() + 3);
                    tokenThatCannotStand(ahead.toString(), tokens[i]);
                }
                ahead.append(tokens[i]).append(' ');
            }
        }
    }

    private static void tokenThatCannotStand(String ahead, String token) {
        boolean number = Character.isDigit(token.charAt(0));
        boolean signed = ahead.equals("wind 7 ");
        String[] words = token.equals("nest") ? LANGUAGE : new String[] {"x", "width", "abcdefg"};
        for (String word : words) {
            faulty(ahead + word, 1, ahead.length());
        }
        faulty(ahead + "-", 1, ahead.length());
        faulty(ahead + "- 1", 1, ahead.length());
        faulty(ahead + "-;", 1, ahead.length());
        faulty(ahead + "--1;", 1, ahead.length());
        faulty(ahead + ",", 1, ahead.length());
        if (!signed) {
            faulty(ahead + "-1;", 1, ahead.length());
            faulty(ahead + "-0;", 1, ahead.length());
        }
        if (!number) {
            faulty(ahead + "1", 1, ahead.length());
        }
        if (!token.equals(";")) {
            faulty(ahead + ";", 1, ahead.length());
        }
    }

    private static void headLines() {
        sentence(4, "width, deep, top, swing behind another LINE than these and seed");
        String[] heads = {"width 9;", "deep 5;", "top 1;", "swing 3;"};
        for (String form : FORMS) {
            String word = form.split(" ")[0];
            boolean free = List.of("width", "deep", "top", "swing", "seed").contains(word);
            for (String head : heads) {
                if (word.equals(head.split(" ")[0])) {
                    continue;
                }
                if (free) {
                    told(form + head);
                } else {
                    faulty(form + head, 1, form.length());
                    faulty("seed 1;" + form + head, 1, 7 + form.length());
                }
            }
        }
        told("swing 3;seed 5;top 1;deep 5;width 9;job 1 2;");
        told("job 1 2;seed 5;job 2 1;");
        sentence(4, "of one place the least");
        faulty("width 9;job 1 2;width 9;", 1, 16);
        faulty("swing 3;spot a 1 1;swing 3;", 1, 19);
    }

    private static void faultsInTheirOrder() {
        sentence(4, "FAULTS, the first along the text");
        faulty("width 99;width 9;", 2, 6);
        faulty("width 9;width 99;", 3, 8);
        faulty("spot a 99 99;", 2, 7);
        faulty("spot a 9 99;", 2, 9);
        faulty("spot a 9 x99;", 1, 9);
        faulty("width 17", 2, 6);
        faulty("width 1", 2, 6);
        faulty("deep 6 x;width", 1, 7);
        sentence(4, "3 told already: a spot (at W)");
        faulty("spot a 1 1;spot a 1 1;", 3, 16);
        faulty("spot abcdef 1 1;spot b 1 1; spot abcdef 99 1;", 3, 33);
        told("spot a 1 1;spot aa 1 1;spot b 1 1;");
        told("spot abcdef 1 1;spot abcdeg 1 1;spot abcde 1 1;");
        sentence(4, "3 told already: the pile of a COLUMN (at its number)");
        faulty("pile 3 1;pile 3 1;", 3, 14);
        faulty("pile 3 1;pile 4 1;pile 003 99;", 3, 23);
        faulty("pile 15 1;pile 15", 3, 15);
        told("pile 3 1;pile 4 1;pile 2 1;");
        sentence(4, "2 too much: a job to its own COLUMN (at the second N)");
        faulty("job 07 7;", 2, 7);
        told("job 1 2;job 1 2;job 1 2;");
        told("block 1 2 3;block 1 2 3;do wait 1;do wait 1;");
    }

    private static void newObject() {
        sentence(1, "All as it is without LINES; an empty TAPE");
        SwingCrane x = new SwingCrane();
        SwingCrane without = new SwingCrane();
        feedAll(without, "width 5;pile 0 2;seed 9;start 1 1;");
        without.text(34);
        without.text(0);
        at("what can be seen", look(x).equals(look(without)), true);
        at("count(10)", x.count(10), 0);
        at("fault(0)", x.fault(0), 0);
        at("fault(1)", x.fault(1), -1);
        beyond("text(1)", x.text(1), -2);
        twoObjects();
    }

    /** What one is told and does is nothing to another one, made ahead of it or behind. */
    private static void twoObjects() {
        sentence(1, "All as it is without LINES, whatever other objects do");
        SwingCrane first = new SwingCrane();
        String anew = look(first);
        SwingCrane busy = busy();
        feedAll(busy, "width 5;");
        busy.fewest(0);
        String told = look(busy);
        SwingCrane second = new SwingCrane();
        at("the first", look(first).equals(anew), true);
        at("the second", look(second).equals(anew), true);
        at("fewest(0) of the first", first.fewest(0), -1);
        at("named(a) of the second", second.named(letters("a")), -1);
        beyond("back() of the second", second.back(), -1);
        beyond("text(1) of the second", second.text(1), -2);
        int fewest = busy.fewest(0);
        tell(first, "width 4;deep 2;spot b 3 1;pile 2 1;do east 2;seed 8;");
        first.keep();
        first.flow(1);
        first.fewest(0);
        tell(second, "x");
        at("the told one", look(busy).equals(told), true);
        at("fewest(0) of the told one", busy.fewest(0), fewest);
        at("named(b) of the told one", busy.named(letters("b")), -1);
        at("undo() of the told one", busy.undo(), 5);
        at("back() of the told one", busy.back(), 3);
    }

    private static void feed() {
        sentence(2, "NONE, and none come, if it would have more than 700");
        SwingCrane x = new SwingCrane();
        for (int i = 1; i <= 34; i++) {
            inside("feed", x.feed(0x20202020, 0x20202020, 0x20202020, 0x20202020, 0x20202020), 20 * i);
        }
        at("feed", x.feed(0x20202020, 0x20202020, 0x77696474, 0x6820342E, 0x20202020), 700);
        stays(x, "feed", () -> x.feed(0x3B3B3B3B, 0x3B3B3B3B, 0x3B3B3B3B, 0x3B3B3B3B, 0x3B3B3B3B), -1);
        at("text(700): none came", x.text(700), -1);
        at("fault(1): the sign behind width 4", x.fault(1), 695);
        at("feed: it is empty then", x.feed(0, 0, 0, 0, 0), 20);
        sentence(2, "Twenty bytes, four of each number, the highest first");
        SwingCrane y = new SwingCrane();
        y.feed(0x77696474, 0x6820373B, 0x64656570, 0x20333B74, 0x6F702031);
        y.feed(0x3B80FF00, 0x80000000, -1, Integer.MIN_VALUE, Integer.MAX_VALUE);
        at("text(21)", y.text(21), 3);
        at("count(0)", y.count(0), 7);
        at("count(1)", y.count(1), 3);
        at("count(2)", y.count(2), 1);
        y.feed(0x77696474, 0x6820373B, 0xFF000000, 0, 0);
        at("text(9)", y.text(9), -1);
        at("fault(1)", y.fault(1), 8);
    }

    private static final String BUSY = "width 9;deep 4;pile 0 3;do east 1;do wait 9;spot a 3 1;wind 7 1;seed 5;";

    /** A crane in whose every part something has happened. */
    private static SwingCrane busy() {
        SwingCrane x = crane(BUSY);
        at("grab()", x.grab(), true);
        x.flow(3);
        x.keep();
        x.flow(1);
        steps(x, 4);
        return x;
    }

    private static void text() {
        sentence(3, "-2, and the TAPE stays: there are not so many, n is below 0");
        SwingCrane x = busy();
        feedAll(x, "width 4;deep 3;");
        int[] none = {-1, 21, 700, 701, Integer.MIN_VALUE, Integer.MAX_VALUE};
        for (int n : none) {
            stays(x, "text(" + n + ")", () -> x.text(n), -2);
        }
        at("text(20)", x.text(20), 2);
        at("count(1)", x.count(1), 3);
        stays(x, "text(1)", () -> x.text(1), -2);
        sentence(3, "The TAPE's first n bytes (it is empty then) are the TEXT");
        feedAll(x, "width 4;deep 3;");
        inside("text(8)", x.text(8), 1);
        at("count(1): the second LINE is gone", x.count(1), 6);
        at("count(10)", x.count(10), 0);
        cutOff("wind 0 -4;", 8, 1, 7);
        cutOff("wind 0 -4;", 9, 1, 9);
        cutOff("wind 0 -44;", 9, 1, 9);
        cutOff("width 44;", 7, 1, 7);
        cutOff("width 16;", 7, 2, 6);
        cutOff("width 4;", 4, 1, 0);
        cutOff("width 4;", 5, 1, 5);
        cutOff("spot abcdefg 1 1;", 11, 1, 11);
        cutOff("spot abcdefg 1 1;", 12, 1, 5);
        cutOff("deep 3;x", 8, 1, 7);
        feedAll(x, "deep 3;x");
        at("text(7)", x.text(7), 1);
        feedAll(x, "width 4;deep 3;");
        at("text(0)", x.text(0), 0);
        at("count(10)", x.count(10), 0);
        at("count(0)", x.count(0), 16);
        sentence(3, "NONE with a FAULT, all else stays");
        SwingCrane y = busy();
        String before = look(y);
        beyond("text", tell(y, "width 4;deep 2;top 1;swing 1;pile 1 1;seed 1;spot b 1 1;x"), -1);
        beyond("fault(0)", y.fault(0), 1);
        beyond("count(10): the TAPE is empty", y.count(10), 0);
        at("what can be seen, but the fault",
                look(y).substring(0, look(y).length() - 4).equals(before.substring(0, before.length() - 4)), true);
        at("wind(7)", y.wind(7), 1);
        at("named(a)", y.named(letters("a")), 0);
        at("chance by its own seed", y.chance(-1, 9, 2), y.chance(5, 9, 2));
        at("back()", y.back(), 3);
    }

    /** The first bytes of a tape that goes on. */
    private static void cutOff(String tape, int n, int kind, int place) {
        SwingCrane x = new SwingCrane();
        feedAll(x, tape);
        at("text(" + n + ") of '" + tape + "'", x.text(n), -1);
        at("fault(0)", x.fault(0), kind);
        at("fault(1)", x.fault(1), place);
    }

    private static void textBeginsAnew() {
        sentence(3, "NOW at first, the FLOW at its beginning, an empty LOG, no IMAGE, nothing to undo");
        SwingCrane x = busy();
        tell(x, BUSY);
        at("what can be seen", look(x).equals(look(crane(BUSY))), true);
        beyond("undo()", x.undo(), -1);
        beyond("back()", x.back(), -1);
        at("flow(40)", x.flow(40), crane(BUSY).flow(40));
        SwingCrane y = crane("spot a 1 1;spot b 2 2;wind 0 4;wind 3 4;do east 3;job 1 2;job 2 1;pile 1 2;seed 9;");
        tell(y, "spot c 0 1;job 3 4;wind 5 1;do wait 1;pile 2 1;");
        at("named(a): gone", y.named(letters("a")), -1);
        at("named(c)", y.named(letters("c")), 0);
        at("fewest(1): gone", y.fewest(1), -1);
        at("wind(0): gone", y.wind(0), 0);
        at("wind(3): gone", y.wind(3), 0);
        at("pile(1): gone", y.pile(1), 0);
        at("count(11)", y.count(11), 1);
        at("job(1): gone", y.job(1), -1);
        at("flow(40)", y.flow(40), 1);
        at("free(2)", y.free(2), 5);
        nothingIsLeft();
    }

    /** Of a text in which all is told as often as can be, behind one in which little is and one without LINES. */
    private static void nothingIsLeft() {
        String much = "seed 7;width 12;deep 5;top 1;swing 2;start 4 3;" + many("block # # 3;", 6)
                + many("spot @ # 1;", 6) + many("wind # 2;", 8) + many("do lower 1;", 16) + many("pile # 2;", 8)
                + many("job # 9;", 3);
        String little = "block 11 11 4;spot z 9 1;wind 900 1;do wait 1;pile 10 1;job 10 9;";
        String[] texts = {little, ""};
        for (String text : texts) {
            SwingCrane x = crane(much);
            SwingCrane anew = new SwingCrane();
            at("text", tell(x, text), linesOf(text));
            tell(anew, text);
            at("what can be seen", look(x).equals(look(anew)), true);
            for (int tick = 0; tick < 8; tick++) {
                at("wind(" + tick + ")", x.wind(tick), 0);
            }
            for (int spot = 0; spot < 6; spot++) {
                at("named", x.named(letters(String.valueOf((char) ('a' + spot)))), -1);
                at("fewest(" + spot + ")", x.fewest(spot), anew.fewest(spot));
                at("job(" + spot + ")", x.job(spot), anew.job(spot));
            }
            for (int n = 1; n <= 60; n++) {
                at("chance(-1, " + n + ", 2): seed 0", x.chance(-1, n, 2), anew.chance(0, n, 2));
            }
            at("chance(-1, 1, 0): seed 0", x.chance(-1, 1, 0), 0);
            beyond("chance(7, 1, 0): that seed would go on", x.chance(7, 1, 0), 1);
            at("flow(40)", x.flow(40), linesOf(text) > 0 ? 1 : 0);
            at("flow(40)", x.flow(40), 0);
        }
    }

    private static void fault() {
        sentence(4, "NONE for another what");
        SwingCrane x = new SwingCrane();
        tell(x, "width 99;");
        int[] none = {-1, 2, 3, Integer.MIN_VALUE, Integer.MAX_VALUE};
        for (int what : none) {
            beyond("fault(" + what + ")", x.fault(what), -1);
        }
        at("fault(0)", x.fault(0), 2);
        at("fault(1)", x.fault(1), 6);
        sentence(4, "Of the latest text() that was not -2");
        x.text(5);
        at("fault(0) behind -2", x.fault(0), 2);
        at("fault(1) behind -2", x.fault(1), 6);
        tell(x, "job 1 1;");
        at("fault(1) of a later one", x.fault(1), 6);
        tell(x, "x");
        at("fault(0) of a later one", x.fault(0), 1);
        at("fault(1) of a later one", x.fault(1), 0);
        x.text(0);
        at("fault(0) (0)", x.fault(0), 0);
        at("fault(1) (NONE without)", x.fault(1), -1);
    }

    private static void named() {
        sentence(5, "5 bits each (a is 1; the first one highest of six, 0 behind the last one)");
        SwingCrane x = told("spot a 1 1;spot z 1 1;spot aaaaaa 1 1;spot zzzzzz 1 1;spot ab 1 1;spot yxwvu 1 1;");
        String[] names = {"a", "z", "aaaaaa", "zzzzzz", "ab", "yxwvu"};
        for (int i = 0; i < names.length; i++) {
            at("named " + names[i], x.named(letters(names[i])), i);
        }
        sentence(5, "NONE: there is none such");
        int[] none = {0, 1, 26, -1, letters("a") - 1, letters("a") + 1, letters("a") >> 5, letters("z") + (1 << 25),
            letters("a") | 1 << 30, letters("a") | 1 << 31, letters("aaaaa"), letters("zzzzz"), letters("b"),
            letters("zzzzzz") + 1, letters("aaaaaa") - 1, Integer.MIN_VALUE, Integer.MAX_VALUE};
        for (int packed : none) {
            beyond("named(" + packed + ")", x.named(packed), -1);
        }
        beyond("named(0) without spots", new SwingCrane().named(0), -1);
    }

    static void run() {
        headNumbers();
        blockNumbers();
        spotAndStartNumbers();
        windNumbers();
        orderNumbers();
        pileAndJobNumbers();
        howMany();
        words();
        digitsAndBlanks();
        tokensOfEachLine();
        headLines();
        faultsInTheirOrder();
        newObject();
        feed();
        text();
        textBeginsAnew();
        fault();
        named();
    }
}
