import java.util.Random;

/** Texts from a fixed seed, right ones and ones with a FAULT, each answer held against the Oracle's. */
public final class RandomTextsTest extends Bench {
    private static final int PAIRS = 30000, MOST_BYTES = 240;
    private static final String[] PIECES = {"sides", "strength", "place", "choice", "rule", "balls", "wheel", "round",
        "worst", "day", "alike", ";", "0", "1", "2", "3", "4", "5", "6", "7", "9", "10", "20", "21", "99", "00", "05",
        "100", "!", "sid", "\u0000", "\u00ff", " ", "  "};
    private static final Random RANDOM = new Random(77);
    private static final int[] FAULTS = new int[7];

    private static int below(int k) {
        return RANDOM.nextInt(k);
    }

    /** Of a league with n SIDES; sides itself is told by text() below, at a line's place that may be too late. */
    private static String line(int n) {
        switch (below(8)) {
            case 0: return "rule " + KINDS[below(5)] + ";";
            case 1: return "strength " + below(n) + " " + (1 + below(9)) + " ;";
            case 2: return "place " + below(n) + " " + below(100) + ";";
            case 3: return " choice " + below(n) + " " + below(100) + ";";
            case 4: case 5: return "balls " + below(n) + " " + (below(3) == 0 ? below(21) : 0) + ";";
            case 6: return "wheel " + below(n) + " " + below(n) + ";";
            default: return "round;";
        }
    }

    private static String text() {
        StringBuilder all = new StringBuilder();
        int n = 4;
        for (int lines = below(14); lines > 0; lines--) {
            if (below(12) == 0) {
                n = 2 + below(5);
                all.append("sides ").append(n).append(';');
            } else {
                all.append(line(n));
            }
        }
        for (int changes = below(3) == 0 ? below(4) : 0; changes > 0; changes--) {
            int at = below(all.length() + 1);
            if (RANDOM.nextBoolean() || at == all.length()) {
                all.insert(at, PIECES[below(PIECES.length)]);
            } else {
                all.deleteCharAt(at);
            }
        }
        return all.substring(0, Math.min(all.length(), MOST_BYTES));
    }

    private static void hold(LosingLeague x, Oracle o, String text) {
        for (int at = 0; at < text.length(); at += 8) {
            due(2, "feed of " + text, x.feed(eight(text, at)), o.feed(eight(text, at)));
        }
        due(3, "end of " + text, x.end(text.length()), o.end(text.length()));
        due(4, "text() of " + text, x.text(), o.text());
        due(5, "fault() of " + text, x.fault(), o.fault());
        FAULTS[o.fault()]++;
        for (int what = -2; what <= 61; what++) {
            due(6, "rule(" + what + ") behind " + text, x.rule(what), o.rule(what));
        }
        for (int what = 0; what <= 5; what++) {
            due(30, "count(" + what + ") behind " + text, x.count(what), o.count(what));
        }
        for (int g = 0; g < o.count(1); g++) {
            for (int what = 0; what <= 2; what++) {
                due(8, "of(" + g + ", " + what + ") behind " + text, x.of(g, what), o.of(g, what));
            }
        }
    }

    public static void main(String[] args) {
        for (int i = 0; i < PAIRS; i++) {
            LosingLeague x = new LosingLeague();
            Oracle o = new Oracle();
            hold(x, o, text());
            // the second one finds what the first one told
            hold(x, o, text());
        }
        for (int what = 0; what < FAULTS.length; what++) {
            due(5, "FAULT " + what + " was met", FAULTS[what] > 10 ? 1 : 0, 1);
        }
        finish();
    }
}
