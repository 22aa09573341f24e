import java.util.ArrayList;
import java.util.Collections;
import java.util.List;

/**
 * Promises 11 and 15 to 22 by their definitions: what a league with OPEN GAMES answers must follow from what the
 * same league answers when one of them has ended this way or that, for every number of OPEN GAMES that is allowed.
 */
public final class DefinitionsTest extends Bench {
    private static final String THREE = "sides 3;strength 0 9;strength 1 2;strength 2 6;place 0 40;place 1 35;"
        + "choice 0 90;choice 1 60;choice 2 3;balls 0 4;balls 1 2;wheel 0 2;wheel 2 0;";
    private static final String FOUR = "strength 0 1;strength 1 4;strength 3 8;place 0 99;place 2 20;"
        + "choice 0 80;choice 1 81;choice 3 10;balls 0 0;balls 3 7;wheel 1 3;wheel 3 1;";
    private static final String SIX = "sides 6;strength 0 3;strength 2 9;strength 5 1;place 0 50;choice 0 99;"
        + "choice 1 98;choice 5 7;balls 0 20;balls 5 0;";

    private final String text;
    private final int[] pairs;

    private DefinitionsTest(String text, int... pairs) {
        this.text = text;
        this.pairs = pairs;
    }

    private LosingLeague made(int[] ends) {
        LosingLeague x = told(text);
        games(x, pairs);
        endAll(x, ends);
        return x;
    }

    private static int[] with(int[] ends, int g, int e) {
        int[] copy = ends.clone();
        copy[g] = e;
        return copy;
    }

    private static Oracle.Part mix(int of16, Oracle.Part ifFirst, Oracle.Part ifSecond) {
        return Oracle.Part.of(of16, 16).times(ifFirst).plus(Oracle.Part.of(16 - of16, 16).times(ifSecond));
    }

    private static void isPart(int promise, String what, long above, long below, Oracle.Part want) {
        due(promise, what + ", above", above, want.get(0));
        due(promise, what + ", below", below, want.get(1));
    }

    private static Oracle.Part worth(LosingLeague x, int s) {
        return Oracle.Part.of(x.worth(s, 0), x.worth(s, 1));
    }

    private static Oracle.Part played(LosingLeague x, int s) {
        return Oracle.Part.of(x.played(s, 0), x.played(s, 1));
    }

    /** As ends tells them, 2 being OPEN ones. */
    private void hold(int[] ends) {
        List<Integer> open = new ArrayList<>();
        for (int g = 0; g < ends.length; g++) {
            if (ends[g] == 2) {
                open.add(g);
            }
        }
        if (open.isEmpty()) {
            ended(ends);
            return;
        }
        for (int g : open) {
            expected(ends, g);
        }
        mayFrom(ends, open.get(0));
        wanted(ends, open);
        paysFrom(ends, open.get(0));
        if (open.size() <= 5) {
            playedFrom(ends, open.get(0));
        }
    }

    private void ended(int[] ends) {
        LosingLeague x = made(ends);
        int n = x.count(0);
        for (int p = 0; p < n; p++) {
            int s = x.table(p, 0);
            isPart(15, "worth(" + s + ") at the end", x.worth(s, 0), x.worth(s, 1), Oracle.Part.of(x.pay(s, 0), x.pay(s, 1)));
            isPart(21, "played(" + s + ") at the end", x.played(s, 0), x.played(s, 1), worth(x, s));
            for (int q = 0; q < n; q++) {
                due(19, "odds(" + s + ", " + q + ", 0) at the end", x.odds(s, q, 0), p == q ? 1 : 0);
                due(19, "odds(" + s + ", " + q + ", 1) at the end", x.odds(s, q, 1), 1);
                due(11, "may(" + s + ", " + q + ") at the end", x.may(s, q), p <= q ? 1 : 0);
            }
        }
    }

    /** "its PAY, expected over all ENDS of OPEN GAMES"; "If a GAME is won or lost by it: of those ENDS alone". */
    private void expected(int[] ends, int g) {
        LosingLeague x = made(ends), first = made(with(ends, g, 0)), second = made(with(ends, g, 1));
        int odds = x.of(g, 3);
        int n = x.count(0);
        for (int s = 0; s < n; s++) {
            isPart(15, "worth(" + s + ") over GAME " + g, x.worth(s, 0), x.worth(s, 1), mix(odds, worth(first, s), worth(second, s)));
            for (int p = 0; p < n; p++) {
                isPart(19, "odds(" + s + ", " + p + ") over GAME " + g, x.odds(s, p, 0), x.odds(s, p, 1),
                    mix(odds, Oracle.Part.of(first.odds(s, p, 0), first.odds(s, p, 1)),
                        Oracle.Part.of(second.odds(s, p, 0), second.odds(s, p, 1))));
            }
        }
        int one = x.of(g, 0), other = x.of(g, 1);
        isPart(16, "won by the first", x.worthIf(one, g, true, 0), x.worthIf(one, g, true, 1), worth(first, one));
        isPart(16, "lost by the first", x.worthIf(one, g, false, 0), x.worthIf(one, g, false, 1), worth(second, one));
        isPart(16, "won by the second", x.worthIf(other, g, true, 0), x.worthIf(other, g, true, 1), worth(second, other));
        isPart(16, "lost by the second", x.worthIf(other, g, false, 0), x.worthIf(other, g, false, 1), worth(first, other));
        int wants = (worth(second, one).compareTo(worth(first, one)) > 0 ? 1 : 0)
            + (worth(first, other).compareTo(worth(second, other)) > 0 ? 2 : 0);
        due(17, "wants(" + g + ")", x.wants(g), wants);
    }

    /** "if its OPEN GAMES are won and all others lie best for it". */
    private void mayFrom(int[] ends, int g) {
        LosingLeague x = made(ends), first = made(with(ends, g, 0)), second = made(with(ends, g, 1));
        for (int s = 0; s < x.count(0); s++) {
            for (int p = 0; p < x.count(0); p++) {
                int want = s == x.of(g, 0) ? first.may(s, p) : s == x.of(g, 1) ? second.may(s, p)
                    : Math.max(first.may(s, p), second.may(s, p));
                due(11, "may(" + s + ", " + p + ")", x.may(s, p), want);
            }
        }
    }

    private void wanted(int[] ends, List<Integer> open) {
        LosingLeague x = made(ends);
        List<Integer> both = new ArrayList<>();
        for (int s = 0; s < x.count(0); s++) {
            List<Integer> own = new ArrayList<>();
            for (int g : open) {
                int wants = x.wants(g);
                if ((x.of(g, 0) == s && wants % 2 == 1) || (x.of(g, 1) == s && wants >= 2)) {
                    own.add(g);
                }
                if (s == 0 && wants == 3) {
                    both.add(g);
                }
            }
            due(18, "lose(" + s + ", 0)", x.lose(s, 0), own.isEmpty() ? NONE : own.get(0));
            due(18, "lose(" + s + ", 1)", x.lose(s, 1), both.isEmpty() ? NONE : both.get(0));
            due(18, "lose(" + s + ", 2)", x.lose(s, 2), own.size());
        }
    }

    /** "over all rows of ENDS of the OPEN GAMES ahead of each of them": its own row, and all behind both ENDS. */
    private void paysFrom(int[] ends, int g) {
        LosingLeague x = made(ends), first = made(with(ends, g, 0)), second = made(with(ends, g, 1));
        int now = Integer.bitCount(x.wants(g));
        due(22, "pays(0)", x.pays(0), now + first.pays(0) + second.pays(0));
        due(22, "pays(2)", x.pays(2), 1 + first.pays(2) + second.pays(2));
        List<Integer> games = new ArrayList<>(List.of(now > 0 ? g : MAX));
        games.add(first.pays(1) == NONE ? MAX : first.pays(1));
        games.add(second.pays(1) == NONE ? MAX : second.pays(1));
        int least = Collections.min(games);
        due(22, "pays(1)", x.pays(1), least == MAX ? NONE : least);
    }

    /** "the first one in which neither would have more by the other choice alone". */
    private void playedFrom(int[] ends, int g) {
        LosingLeague x = made(ends), first = made(with(ends, g, 0)), second = made(with(ends, g, 1));
        int one = x.of(g, 0), other = x.of(g, 1);
        int restedOne = Math.max(1, x.rule(10 + one) / 2), restedOther = Math.max(1, x.rule(10 + other) / 2);
        int both = Math.max(1, Math.min(15, 16 * restedOne / (restedOne + restedOther)));
        int[] of16 = {x.of(g, 3), x.of(g, 5), x.of(g, 4), both};
        int[] firstInstead = {2, 3, 0, 1}, secondInstead = {1, 0, 3, 2};
        int pair = NONE;
        for (int p = 3; p >= 0; p--) {
            boolean stays = value(first, second, one, of16[p]).compareTo(value(first, second, one, of16[firstInstead[p]])) >= 0
                && value(first, second, other, of16[p]).compareTo(value(first, second, other, of16[secondInstead[p]])) >= 0;
            pair = stays ? p : pair;
        }
        due(20, "play(0)", x.play(0), Math.max(0, pair));
        due(20, "play(1)", x.play(1), pair == NONE ? 0 : 1);
        due(20, "play(2)", x.play(2), g);
        for (int s = 0; s < x.count(0); s++) {
            isPart(21, "played(" + s + ")", x.played(s, 0), x.played(s, 1), value(first, second, s, of16[Math.max(0, pair)]));
        }
    }

    private static Oracle.Part value(LosingLeague first, LosingLeague second, int s, int of16) {
        return mix(of16, played(first, s), played(second, s));
    }

    /** From seven OPEN GAMES to none, ended by turns in some order. */
    private void holdAll(int[] order, int... closed) {
        int[] ends = closed.clone();
        hold(ends);
        for (int i = 0; i < order.length; i++) {
            ends[order[i]] = i * 2 % 3 == 0 ? 0 : 1;
            hold(ends);
        }
    }

    public static void main(String[] args) {
        int[] forward = {0, 1, 2, 3, 4, 5, 6}, back = {6, 5, 4, 3, 2, 1, 0}, mixed = {3, 0, 6, 1, 5, 2, 4};
        for (String kind : KINDS) {
            String rule = "rule " + kind + ";";
            DefinitionsTest three = new DefinitionsTest(THREE + rule, 0, 1, 2, 0, 1, 2, 0, 1, 0, 2, 2, 1, 1, 0);
            three.holdAll(forward, 2, 2, 2, 2, 2, 2, 2);
            three.holdAll(back, 2, 2, 2, 2, 2, 2, 2);
            DefinitionsTest four = new DefinitionsTest(FOUR + rule, 3, 1, 0, 2, 1, 0, 2, 3, 0, 3, 1, 2, 3, 1, 0, 1, 2, 0);
            four.holdAll(mixed, 2, 2, 2, 2, 2, 2, 2, 0, 1);
            four.holdAll(new int[] {8, 1, 7, 2, 4, 5, 3}, 0, 2, 2, 2, 2, 2, 1, 2, 2);
            DefinitionsTest six = new DefinitionsTest(SIX + rule, 0, 1, 2, 3, 4, 5, 5, 0, 1, 2, 3, 4, 0, 3);
            six.holdAll(mixed, 2, 2, 2, 2, 2, 2, 2);
        }
        finish();
    }
}
