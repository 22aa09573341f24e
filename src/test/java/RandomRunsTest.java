import java.util.Random;

/** Long runs of calls, drawn from fixed seeds, each answer held against the Oracle's. */
public final class RandomRunsTest {
    private static final int RUNS = 150, CALLS = 500;
    private static final String[] WORDS = {"sides", "strength", "place", "choice", "rule", "balls", "wheel", "round",
        "worst", "day", "alike", ";", "0", "1", "2", "3", "5", "07", "10", "21", "99", "100", "!", "side", "A", " "};
    private static final String[] KINDS = {"worst", "balls", "day", "wheel", "alike"};

    private final Random random;
    private final int run;
    private final LosingLeague league = new LosingLeague();
    private final Oracle oracle = new Oracle();
    private int wrong, calls;

    private RandomRunsTest(int run) {
        this.run = run;
        random = new Random(run);
    }

    private void same(String call, long got, long want) {
        calls++;
        if (got != want && wrong++ < 5) {
            System.out.println("run " + run + " call " + calls + ": " + call + " answered " + got + ", due is " + want);
        }
    }

    /** A number from -1 to k, seldom one far off. */
    private int around(int k) {
        int[] far = {Integer.MIN_VALUE, Integer.MAX_VALUE, -7, 100};
        return random.nextInt(40) == 0 ? far[random.nextInt(4)] : random.nextInt(k + 2) - 1;
    }

    /** A number from 0 to k - 1, seldom one around them. */
    private int mostly(int k) {
        return random.nextInt(12) == 0 ? around(k) : random.nextInt(k);
    }

    private String fineText() {
        StringBuilder t = new StringBuilder();
        int n = 4;
        if (random.nextBoolean()) {
            n = 2 + random.nextInt(5);
            t.append("sides ").append(n).append(";");
        }
        if (random.nextInt(5) > 0) t.append("rule ").append(KINDS[random.nextInt(5)]).append(';');
        for (int i = 0; i < n; i++) {
            if (random.nextInt(2) == 0) t.append("strength ").append(i).append(' ').append(1 + random.nextInt(9)).append(";");
            if (random.nextInt(2) == 0) t.append("place ").append(i).append(' ').append(random.nextInt(100)).append(" ; ");
            if (random.nextInt(3) > 0) t.append("choice ").append(i).append(' ').append(random.nextInt(100)).append("; ");
            if (random.nextInt(3) == 0) t.append("balls ").append(i).append(' ').append(random.nextInt(4)).append(";");
        }
        if (random.nextInt(3) == 0) t.append("wheel 0 1;wheel 1 0;");
        for (int r = random.nextInt(4); r > 0; r--) t.append("round;");
        return t.toString();
    }

    private String wildText() {
        StringBuilder t = new StringBuilder(random.nextBoolean() ? fineText() : "");
        for (int i = random.nextInt(12); i > 0; i--) {
            t.insert(random.nextInt(t.length() + 1), WORDS[random.nextInt(WORDS.length)] + (random.nextBoolean() ? " " : ""));
        }
        return t.toString();
    }

    private void tell(String text) {
        // bytes that random feeds have left would spoil nearly every text: now and then they may
        if (random.nextInt(4) > 0) same("end(0)", league.end(0), oracle.end(0));
        int at = 0;
        while (at < text.length()) {
            long v = 0;
            for (int i = 0; i < 8; i++) v = v << 8 | (at + i < text.length() ? text.charAt(at + i) : 32);
            same("feed(" + v + ")", league.feed(v), oracle.feed(v));
            at += 8;
        }
        int keep = Math.min(text.length(), 240);
        same("end(" + keep + ")", league.end(keep), oracle.end(keep));
        same("text() of '" + text + "'", league.text(), oracle.text());
        same("fault()", league.fault(), oracle.fault());
    }

    /** Ends all but a few GAMES, so that the calls on OPEN ones have something to do. */
    private void settleMost() {
        int size = oracle.count(1);
        for (int g = 0; g < size; g++) {
            int e = random.nextInt(size + 1) < 4 ? 2 : random.nextInt(2);
            same("ends(" + g + ", " + e + ")", league.ends(g, e), oracle.ends(g, e));
        }
    }

    private void call() {
        int s = mostly(6), g = mostly(Math.max(1, oracle.count(1))), p = mostly(2), w = mostly(3);
        switch (random.nextInt(34)) {
            case 0: if (random.nextInt(4) == 0) tell(random.nextInt(3) > 0 ? fineText() : wildText()); break;
            case 1: if (random.nextInt(4) == 0) settleMost(); break;
            case 2: same("end(" + s + ")", league.end(s), oracle.end(s)); break;
            case 3: int r = around(62); same("rule(" + r + ")", league.rule(r), oracle.rule(r)); break;
            case 4: int h = mostly(6); same("game(" + s + ", " + h + ")", league.game(s, h), oracle.game(s, h)); break;
            case 5: int q = mostly(6); same("of(" + g + ", " + q + ")", league.of(g, q), oracle.of(g, q)); break;
            case 6: same("ends(" + g + ", " + w + ")", league.ends(g, w), oracle.ends(g, w)); break;
            case 7: same("table(" + s + ", " + w + ")", league.table(s, w), oracle.table(s, w)); break;
            case 8: int t = mostly(6); same("may(" + s + ", " + t + ")", league.may(s, t), oracle.may(s, t)); break;
            case 9: same("out(" + s + ")", league.out(s), oracle.out(s)); break;
            case 10: int b = mostly(6); same("chooses(" + s + ", " + b + ")", league.chooses(s, b), oracle.chooses(s, b)); break;
            case 11: same("pay(" + s + ", " + p + ")", league.pay(s, p), oracle.pay(s, p)); break;
            case 12: same("worth(" + s + ", " + p + ")", league.worth(s, p), oracle.worth(s, p)); break;
            case 13: case 14: boolean won = random.nextBoolean();
                same("worthIf(" + s + ", " + g + ", " + won + ", " + p + ")", league.worthIf(s, g, won, p), oracle.worthIf(s, g, won, p)); break;
            case 15: same("wants(" + g + ")", league.wants(g), oracle.wants(g)); break;
            case 16: same("lose(" + s + ", " + w + ")", league.lose(s, w), oracle.lose(s, w)); break;
            case 17: int o = mostly(6); same("odds(" + s + ", " + o + ", " + p + ")", league.odds(s, o, p), oracle.odds(s, o, p)); break;
            case 18: case 19: same("play(" + w + ")", league.play(w), oracle.play(w)); break;
            case 20: case 21: same("played(" + s + ", " + p + ")", league.played(s, p), oracle.played(s, p)); break;
            case 22: same("pays(" + w + ")", league.pays(w), oracle.pays(w)); break;
            case 23: int m = around(40), seed = random.nextInt(), y = random.nextBoolean() ? around(16) : random.nextInt(5);
                same("years(" + m + ", " + seed + ", " + y + ")", league.years(m, seed, y), oracle.years(m, seed, y)); break;
            case 24: int a = around(20), c = around(20); same("thumbs(" + a + ", " + c + ", " + p + ")", league.thumbs(a, c, p), oracle.thumbs(a, c, p)); break;
            case 25: int d = around(20), x = around(1000); same("fine(" + d + ", " + x + ")", league.fine(d, x), oracle.fine(d, x)); break;
            default: sheetCall(); break;
        }
    }

    private void sheetCall() {
        int k = mostly(2), lane = mostly(3);
        switch (random.nextInt(8)) {
            case 0: int n = random.nextInt(4) == 0 ? around(40) : random.nextInt(12);
                same("sheet(" + k + ", " + lane + ", " + n + ")", league.sheet(k, lane, n), oracle.sheet(k, lane, n)); break;
            case 1: case 2: case 3: int i = mostly(8);
                int v = random.nextInt(8) == 0 ? random.nextInt() : random.nextInt(3) + (random.nextInt(4) == 0 ? 65536 : 0);
                same("lay(" + k + ", " + i + ", " + v + ")", league.lay(k, i, v), oracle.lay(k, i, v)); break;
            case 4: int what = around(6); same("count(" + what + ")", league.count(what), oracle.count(what)); break;
            case 5: long eight = random.nextLong(); same("feed(" + eight + ")", league.feed(eight), oracle.feed(eight)); break;
            default: int f = mostly(8), g = mostly(6), m = mostly(8);
                same("read(" + k + ", " + lane + ", " + f + ", " + g + ", " + m + ")", league.read(k, lane, f, g, m), oracle.read(k, lane, f, g, m));
                same("torn()", league.torn(), oracle.torn()); break;
        }
    }

    public static void main(String[] args) {
        int wrong = 0;
        for (int run = 0; run < RUNS; run++) {
            RandomRunsTest test = new RandomRunsTest(run);
            if (run % 4 > 0) {
                test.tell(test.fineText());
                test.settleMost();
            }
            while (test.calls < CALLS - 70) test.call();
            wrong += test.wrong;
        }
        System.out.println(wrong == 0 ? "all answers are as due" : wrong + " answers are not as due");
        if (wrong != 0) System.exit(1);
    }
}
