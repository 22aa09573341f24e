/** What the tests by hand share: a text is told, an answer is held against the one that is due. */
abstract class Bench {
    static final int BAD = LosingLeague.BAD, STATE = LosingLeague.STATE;
    static final int FULL = LosingLeague.FULL, NONE = LosingLeague.NONE;
    static final int MIN = Integer.MIN_VALUE, MAX = Integer.MAX_VALUE;
    static final String[] KINDS = {"worst", "balls", "day", "wheel", "alike"};
    private static final int SHOWN = 60;
    private static int wrong = 0;
    private static int held = 0;

    static void due(int promise, String call, long got, long want) {
        held++;
        if (got != want && wrong++ < SHOWN) {
            System.out.println("promise " + promise + ": " + call + " answered " + got + ", due is " + want);
        }
    }

    static void same(int promise, String what, String got, String want) {
        held++;
        if (!got.equals(want) && wrong++ < SHOWN) {
            System.out.println("promise " + promise + ": " + what + ": " + got + ", due is " + want);
        }
    }

    /** The end of every main method; a test that held nothing against anything has failed, too. */
    static void finish() {
        System.out.println(wrong == 0 ? "all " + held + " answers are as due" : wrong + " answers are not as due");
        if (wrong != 0 || held == 0) {
            System.exit(1);
        }
    }

    static long eight(String text, int at) {
        long v = 0;
        for (int i = 0; i < 8; i++) {
            v = v << 8 | (at + i < text.length() ? text.charAt(at + i) : ' ');
        }
        return v;
    }

    static void put(LosingLeague x, String text) {
        x.end(0);
        for (int at = 0; at < text.length(); at += 8) {
            x.feed(eight(text, at));
        }
        x.end(text.length());
    }

    static int tell(LosingLeague x, String text) {
        put(x, text);
        return x.text();
    }

    static int linesOf(String text) {
        int lines = 0;
        for (int i = 0; i < text.length(); i++) {
            if (text.charAt(i) == ';') {
                lines++;
            }
        }
        return lines;
    }

    static LosingLeague told(String text) {
        LosingLeague x = new LosingLeague();
        due(4, "text() of " + text, tell(x, text), linesOf(text));
        due(5, "fault() of " + text, x.fault(), 0);
        return x;
    }

    static void endAll(LosingLeague x, int... ends) {
        for (int g = 0; g < ends.length; g++) {
            x.ends(g, ends[g]);
        }
    }

    /** GAMES of two SIDES, all OPEN, as pairs one behind another. */
    static void games(LosingLeague x, int... sides) {
        for (int i = 0; i + 1 < sides.length; i += 2) {
            x.game(sides[i], sides[i + 1]);
        }
    }

    /** All that holds and can be asked without a change: the rules, the GAMES, the counts, the FAULTS. */
    static String seen(LosingLeague x) {
        StringBuilder all = new StringBuilder();
        int sides = x.rule(0), games = x.count(1);
        all.append(sides).append(' ').append(x.rule(1));
        for (int tens = 10; tens <= 50; tens += 10) {
            all.append(" /");
            for (int i = 0; i < sides; i++) {
                all.append(' ').append(x.rule(tens + i));
            }
        }
        all.append(" games");
        for (int g = 0; g < games; g++) {
            all.append(' ').append(x.of(g, 0)).append(x.of(g, 1)).append(x.of(g, 2));
        }
        all.append(" counts");
        for (int what = 0; what <= 5; what++) {
            all.append(' ').append(x.count(what));
        }
        return all.append(" faults ").append(x.fault()).append(' ').append(x.torn()).toString();
    }
}
