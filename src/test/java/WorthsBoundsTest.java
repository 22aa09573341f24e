import java.math.BigInteger;

/** Promises 15 to 22: each boundary that the document names of WORTH, WANTS, PLAY and PAYS. */
public final class WorthsBoundsTest extends Bench {
    private static final int[] FAR = {MIN, -1, 2, MAX};

    /** Thirty GAMES of two SIDES, the first so many of them OPEN. */
    private static LosingLeague withOpen(int open, String rules) {
        LosingLeague x = told("sides 2;" + rules + "round;".repeat(30));
        for (int g = open; g < 30; g++) {
            x.ends(g, g % 2);
        }
        due(30, "OPEN ones", x.count(2), open);
        return x;
    }

    /** "7 OPEN GAMES at most", "STATE: more than 7 are OPEN", and BAD ahead of it. */
    private static void sevenOpen() {
        for (int open = 0; open <= 30; open++) {
            LosingLeague x = withOpen(open, "");
            boolean state = open > 7;
            due(15, "worth(0, 0), OPEN " + open, x.worth(0, 0), state ? STATE : 0);
            due(15, "worth(1, 1), OPEN " + open, x.worth(1, 1), state ? STATE : 1);
            due(18, "lose(1, 0), OPEN " + open, x.lose(1, 0), state ? STATE : NONE);
            due(18, "lose(1, 1), OPEN " + open, x.lose(1, 1), state ? STATE : NONE);
            due(18, "lose(1, 2), OPEN " + open, x.lose(1, 2), state ? STATE : 0);
            due(22, "pays(0), OPEN " + open, x.pays(0), state ? STATE : 0);
            due(22, "pays(1), OPEN " + open, x.pays(1), state ? STATE : NONE);
            due(22, "pays(2), OPEN " + open, x.pays(2), state ? STATE : (1 << open) - 1);
            long odds = x.odds(0, 1, 1);
            due(19, "odds(0, 1, 1), OPEN " + open, odds > 0 ? 1 : odds, state ? STATE : 1);
            if (open > 0) {
                int last = open - 1;
                due(16, "worthIf, OPEN " + open, x.worthIf(0, last, true, 1), state ? STATE : 1);
                due(17, "wants, OPEN " + open, x.wants(last), state ? STATE : 0);
            }
            badAheadOfState(x, open);
        }
    }

    private static void badAheadOfState(LosingLeague x, int open) {
        for (int f : FAR) {
            due(15, "worth(" + f + ", 0), OPEN " + open, x.worth(f, 0), BAD);
            due(15, "worth(0, " + f + "), OPEN " + open, x.worth(0, f), BAD);
            due(16, "worthIf(" + f + ", 0, ..), OPEN " + open, x.worthIf(f, 0, true, 0), BAD);
            due(16, "worthIf(0, 0, .., " + f + "), OPEN " + open, x.worthIf(0, 0, true, f), BAD);
            due(18, "lose(" + f + ", 0), OPEN " + open, x.lose(f, 0), BAD);
            due(18, "lose(" + f + ", 2), OPEN " + open, x.lose(f, 2), BAD);
            due(18, "lose(" + f + ", 1), OPEN " + open, x.lose(f, 1), open > 7 ? STATE : NONE);
            due(19, "odds(" + f + ", 0, 0), OPEN " + open, x.odds(f, 0, 0), BAD);
            due(19, "odds(0, " + f + ", 0), OPEN " + open, x.odds(0, f, 0), BAD);
            due(19, "odds(0, 0, " + f + "), OPEN " + open, x.odds(0, 0, f), BAD);
        }
        int[] noGames = {MIN, -1, open, 30, MAX};
        for (int g : noGames) {
            if (g < 0 || g >= open) {
                due(16, "worthIf(0, " + g + ", ..), OPEN " + open, x.worthIf(0, g, true, 0), BAD);
                due(16, "worthIf(1, " + g + ", ..), OPEN " + open, x.worthIf(1, g, false, 1), BAD);
                due(17, "wants(" + g + "), OPEN " + open, x.wants(g), BAD);
            }
        }
        int[] noWhats = {MIN, -1, 3, MAX};
        for (int w : noWhats) {
            due(18, "lose(0, " + w + "), OPEN " + open, x.lose(0, w), BAD);
            due(22, "pays(" + w + "), OPEN " + open, x.pays(w), BAD);
        }
    }

    /** "PLAY: OPEN GAMES (5 at most)", "STATE: more than 5 are OPEN, or none is" (played: more than 5 alone). */
    private static void fiveOpen() {
        for (int open = 0; open <= 30; open++) {
            LosingLeague x = withOpen(open, "place 0 7;place 1 7;");
            boolean state = open > 5;
            due(20, "play(0), OPEN " + open, x.play(0), state || open == 0 ? STATE : 0);
            due(20, "play(1), OPEN " + open, x.play(1), state || open == 0 ? STATE : 1);
            due(20, "play(2), OPEN " + open, x.play(2), state || open == 0 ? STATE : 0);
            due(21, "played(0, 0), OPEN " + open, x.played(0, 0), state ? STATE : 7);
            due(21, "played(1, 1), OPEN " + open, x.played(1, 1), state ? STATE : 1);
            for (int f : FAR) {
                due(20, "play(" + f + "), OPEN " + open, x.play(f == 2 ? 3 : f), BAD);
                due(21, "played(" + f + ", 0), OPEN " + open, x.played(f, 0), BAD);
                due(21, "played(0, " + f + "), OPEN " + open, x.played(0, f), BAD);
            }
        }
        LosingLeague x = withOpen(6, "");
        x.ends(0, 0);
        due(20, "the first OPEN GAME's number", x.play(2), 1);
        x.ends(2, 0);
        due(20, "the first OPEN GAME's number", x.play(2), 1);
        x.ends(1, 0);
        due(20, "the first OPEN GAME's number", x.play(2), 3);
        x.ends(0, 2);
        due(20, "the first OPEN GAME's number", x.play(2), 0);
    }

    /** SIDES, PLACES and what from -1 to one too many, for each number of SIDES. */
    private static void sidesAndPlaces() {
        for (int n = 2; n <= 6; n++) {
            LosingLeague x = told("sides " + n + ";");
            x.game(0, n - 1);
            for (int s = -1; s <= n; s++) {
                boolean side = s >= 0 && s < n;
                boolean own = s == 0 || s == n - 1;
                due(15, "worth(" + s + ", 0) of " + n, x.worth(s, 0), side ? 0 : BAD);
                due(15, "worth(" + s + ", 1) of " + n, x.worth(s, 1), side ? 1 : BAD);
                due(16, "worthIf(" + s + ", 0, ..) of " + n, x.worthIf(s, 0, true, 1), own ? 1 : BAD);
                due(16, "worthIf(" + s + ", 0, ..) of " + n, x.worthIf(s, 0, false, 0), own ? 0 : BAD);
                due(18, "lose(" + s + ", 0) of " + n, x.lose(s, 0), side ? NONE : BAD);
                due(18, "lose(" + s + ", 2) of " + n, x.lose(s, 2), side ? 0 : BAD);
                due(18, "lose(" + s + ", 1) of " + n, x.lose(s, 1), NONE);
                due(21, "played(" + s + ", 1) of " + n, x.played(s, 1), side ? 1 : BAD);
                for (int p = -1; p <= n; p++) {
                    boolean place = p >= 0 && p < n;
                    long odds = x.odds(s, p, 0);
                    due(19, "odds(" + s + ", " + p + ", 0) of " + n, odds < 0 ? odds : 0, side && place ? 0 : BAD);
                }
            }
        }
    }

    private static BigInteger ways(int games, int won, int of16) {
        BigInteger all = BigInteger.ONE;
        for (int i = 0; i < won; i++) {
            all = all.multiply(BigInteger.valueOf(games - i)).divide(BigInteger.valueOf(i + 1));
        }
        return all.multiply(BigInteger.valueOf(of16).pow(won)).multiply(BigInteger.valueOf(16 - of16).pow(games - won));
    }

    /** Of 16 to the number of GAMES, how often the first of two SIDES is first: as many won are enough for it. */
    private static BigInteger firstOf(int games, int had, int all, int of16) {
        BigInteger often = BigInteger.ZERO;
        for (int won = 0; won <= games; won++) {
            if (2 * (won + had) >= all) {
                often = often.add(ways(games, won, of16));
            }
        }
        return often;
    }

    private static void fraction(int promise, String what, long above, long below, BigInteger a, BigInteger b) {
        BigInteger g = a.gcd(b);
        due(promise, what + ", above", above, a.divide(g).longValueExact());
        due(promise, what + ", below", below, b.divide(g).longValueExact());
    }

    /** WORTH and odds with 0 to 7 OPEN GAMES, in lowest terms, by counting wins alone. */
    private static void worthByCounting() {
        int[][] strengths = {{1, 9}, {9, 1}, {5, 5}, {1, 1}, {9, 9}, {3, 7}};
        for (int[] s : strengths) {
            int of16 = Math.max(1, 16 * s[0] / (s[0] + s[1]));
            for (int open = 0; open <= 7; open++) {
                LosingLeague x = told("sides 2;strength 0 " + s[0] + ";strength 1 " + s[1]
                    + ";place 0 99;place 1 7;choice 0 99;choice 1 31;" + "round;".repeat(open));
                BigInteger all = BigInteger.valueOf(16).pow(open);
                BigInteger first = firstOf(open, 0, open, of16);
                String what = s[0] + " and " + s[1] + ", OPEN " + open;
                fraction(19, "odds of " + what, x.odds(0, 0, 0), x.odds(0, 0, 1), first, all);
                fraction(19, "odds of " + what, x.odds(1, 0, 0), x.odds(1, 0, 1), all.subtract(first), all);
                fraction(19, "odds of " + what, x.odds(0, 1, 0), x.odds(0, 1, 1), all.subtract(first), all);
                fraction(19, "odds of " + what, x.odds(1, 1, 0), x.odds(1, 1, 1), first, all);
                fraction(15, "worth of " + what, x.worth(0, 0), x.worth(0, 1), paid(first, all), all);
                fraction(15, "worth of " + what, x.worth(1, 0), x.worth(1, 1), paid(all.subtract(first), all), all);
                for (int g = 0; g < open; g++) {
                    BigInteger rest = BigInteger.valueOf(16).pow(open - 1);
                    BigInteger won = firstOf(open - 1, 1, open, of16), lost = firstOf(open - 1, 0, open, of16);
                    fraction(16, "won of " + what, x.worthIf(0, g, true, 0), x.worthIf(0, g, true, 1), paid(won, rest), rest);
                    fraction(16, "lost of " + what, x.worthIf(0, g, false, 0), x.worthIf(0, g, false, 1), paid(lost, rest), rest);
                    fraction(16, "won by 1 of " + what, x.worthIf(1, g, true, 0), x.worthIf(1, g, true, 1),
                        paid(rest.subtract(lost), rest), rest);
                    fraction(16, "lost by 1 of " + what, x.worthIf(1, g, false, 0), x.worthIf(1, g, false, 1),
                        paid(rest.subtract(won), rest), rest);
                }
            }
        }
    }

    /** The first one has 99 and choice 1 with 31, the last one 7 and choice 0 with 99. */
    private static BigInteger paid(BigInteger first, BigInteger all) {
        return first.multiply(BigInteger.valueOf(130)).add(all.subtract(first).multiply(BigInteger.valueOf(106)));
    }

    /** "It WANTS to lose .., if its WORTH is greater when it loses": as great is not greater. */
    private static void greaterAlone() {
        for (int worth = 0; worth <= 99; worth++) {
            LosingLeague x = told("sides 2;place 0 50;choice 0 " + worth + ";round;");
            boolean both = worth > 50;
            due(17, "wants(0), choice 0 is " + worth, x.wants(0), both ? 3 : 0);
            due(18, "lose(0, 0), choice 0 is " + worth, x.lose(0, 0), both ? 0 : NONE);
            due(18, "lose(1, 0), choice 0 is " + worth, x.lose(1, 0), both ? 0 : NONE);
            due(18, "lose(MIN, 1), choice 0 is " + worth, x.lose(MIN, 1), both ? 0 : NONE);
            due(18, "lose(0, 2), choice 0 is " + worth, x.lose(0, 2), both ? 1 : 0);
            due(20, "play(0), choice 0 is " + worth, x.play(0), both ? 3 : 0);
            due(20, "play(1), choice 0 is " + worth, x.play(1), 1);
            due(22, "pays(0), choice 0 is " + worth, x.pays(0), both ? 2 : 0);
            due(22, "pays(1), choice 0 is " + worth, x.pays(1), both ? 0 : NONE);
            due(22, "pays(2), choice 0 is " + worth, x.pays(2), 1);
        }
    }

    /** A GAME that changes nothing any more is not wanted to be lost; one that does is. */
    private static void decidedOrNot() {
        LosingLeague y = told("sides 2;choice 0 60;round;round;round;");
        due(18, "all three", y.lose(0, 2), 3);
        due(18, "the first", y.lose(1, 0), 0);
        due(18, "the first of both", y.lose(9, 1), 0);
        y.ends(0, 0);
        due(18, "two are left", y.lose(1, 2), 2);
        due(18, "the first that is OPEN", y.lose(1, 0), 1);
        due(18, "the first that is OPEN", y.lose(9, 1), 1);
        due(17, "not OPEN", y.wants(0), BAD);
        y.ends(1, 1);
        due(18, "it is open who is last", y.lose(0, 2), 1);
        due(18, "it is open who is last", y.lose(0, 0), 2);
        due(17, "it is open who is last", y.wants(2), 3);
        y.ends(1, 0);
        due(18, "1 is last already", y.lose(0, 2), 0);
        due(18, "1 is last already", y.lose(0, 0), NONE);
        due(18, "1 is last already", y.lose(0, 1), NONE);
        due(17, "1 is last already", y.wants(2), 0);
        y.ends(2, 0);
        due(18, "none is OPEN", y.lose(1, 2), 0);
        due(18, "none is OPEN", y.lose(1, 0), NONE);
        // not its own: SIDE 2 plays in neither
        LosingLeague z = told("sides 3;choice 1 60;");
        games(z, 0, 1);
        // 2 is the last in any case; the loser is second and has choice 1
        due(17, "both want to be second", z.wants(0), 3);
        due(18, "SIDE 2 has no GAME", z.lose(2, 2), 0);
        due(18, "SIDE 2 has no GAME", z.lose(2, 0), NONE);
        due(16, "not its own", z.worthIf(2, 0, false, 0), BAD);
    }

    /** "the first one in which neither would have more by the other choice alone", for all STRENGTHS. */
    private static void pairsOfAll() {
        for (int one = 1; one <= 9; one++) {
            for (int other = 1; other <= 9; other++) {
                String strengths = "sides 2;strength 0 " + one + ";strength 1 " + other + ";round;";
                LosingLeague lose = told(strengths + "choice 0 64;");
                LosingLeague win = told(strengths + "place 0 64;");
                LosingLeague same = told(strengths + "choice 0 64;place 0 64;");
                int tries = lose.of(0, 3), firstRests = lose.of(0, 4), secondRests = lose.of(0, 5);
                int bothRest = oddsOf(Math.max(1, one / 2), Math.max(1, other / 2));
                int[] of16 = {tries, secondRests, firstRests, bothRest};
                int want = firstKept(of16);
                String what = one + " and " + other;
                due(20, "play(0), both want to lose, " + what, lose.play(0), want);
                due(20, "play(1), both want to lose, " + what, lose.play(1), 1);
                due(20, "play(0), both want to win, " + what, win.play(0), 0);
                due(20, "play(0), all the same, " + what, same.play(0), 0);
                due(21, "played by 0, to lose, " + what, lose.played(0, 0) * 16, 64 * (16 - of16[want]) * lose.played(0, 1));
                due(21, "played by 1, to lose, " + what, lose.played(1, 0) * 16, 64 * of16[want] * lose.played(1, 1));
                due(21, "played by 0, to win, " + what, win.played(0, 0) * 16, 64 * tries * win.played(0, 1));
                due(21, "played, all the same, " + what, same.played(1, 0), 64);
            }
        }
        // at STRENGTH 1 it is the same to REST: no more by it
        due(20, "1 and 1", told("sides 2;strength 0 1;strength 1 1;choice 0 64;round;").play(0), 0);
        due(20, "1 and 2", told("sides 2;strength 0 1;strength 1 2;choice 0 64;round;").play(0), 1);
        due(20, "2 and 1", told("sides 2;strength 0 2;strength 1 1;choice 0 64;round;").play(0), 2);
        due(20, "2 and 2", told("sides 2;strength 0 2;strength 1 2;choice 0 64;round;").play(0), 3);
    }

    /** Both want to lose: the first one would have fewer of 16, the second one more. */
    private static int firstKept(int[] of16) {
        int[] firstInstead = {2, 3, 0, 1}, secondInstead = {1, 0, 3, 2};
        for (int p = 0; p < 4; p++) {
            if (of16[p] <= of16[firstInstead[p]] && of16[p] >= of16[secondInstead[p]]) {
                return p;
            }
        }
        return 0;
    }

    private static int oddsOf(int one, int other) {
        return Math.max(1, Math.min(15, 16 * one / (one + other)));
    }

    /** "what comes behind being played so, too". */
    private static void playedFromTheLast() {
        LosingLeague x = told("sides 2;choice 0 60;round;round;");
        // 0 won GAME 0: it is first in any case: 0 and 60; 1 won it: GAME 1 decides, both REST, 8 of 16: 30 and 30
        due(20, "both REST", x.play(0), 3);
        due(21, "played(0, 0)", x.played(0, 0), 15);
        due(21, "played(1, 0)", x.played(1, 0), 45);
        due(22, "two rows of three, both SIDES", x.pays(0), 4);
        due(22, "rows", x.pays(2), 3);
        due(22, "the first GAME", x.pays(1), 0);
        x.ends(0, 0);
        due(20, "it is decided: both try", x.play(0), 0);
        due(21, "played(1, 0)", x.played(1, 0), 60);
        due(22, "it is decided", x.pays(0), 0);
        due(22, "it is decided", x.pays(1), NONE);
        due(22, "one row", x.pays(2), 1);
        x.ends(0, 1);
        due(20, "it is not decided", x.play(0), 3);
        due(20, "GAME 1", x.play(2), 1);
        due(22, "it is not decided", x.pays(0), 2);
        due(22, "it is not decided", x.pays(1), 1);
        x.ends(1, 0);
        due(21, "none OPEN: as PAY", x.played(1, 0), x.pay(1, 0));
        due(22, "none OPEN: no rows", x.pays(2), 0);
        // GAME 1 alone has to do with who is last, whatever GAME 0's END is
        LosingLeague y = told("sides 4;choice 0 60;");
        games(y, 0, 1, 2, 3);
        due(22, "two rows, both SIDES", y.pays(0), 4);
        due(22, "not the first OPEN one", y.pays(1), 1);
        due(20, "0 and 1 both try", y.play(0), 0);
        due(17, "wants(0)", y.wants(0), 0);
        due(17, "wants(1)", y.wants(1), 3);
        due(18, "lose(0, 1)", y.lose(0, 1), 1);
        due(18, "lose(3, 0)", y.lose(3, 0), 1);
        due(18, "lose(0, 0)", y.lose(0, 0), NONE);
    }

    /** The odds of one SIDE over all PLACES, and of all SIDES at one PLACE, are one in all. */
    private static void oddsAreWhole() {
        LosingLeague x = told("sides 4;strength 0 1;strength 1 9;strength 3 2;round;round;");
        endAll(x, 0, 1, 0, 1, 0);
        for (int i = 0; i < 4; i++) {
            BigInteger[] ofSide = {BigInteger.ZERO, BigInteger.ONE}, atPlace = {BigInteger.ZERO, BigInteger.ONE};
            for (int j = 0; j < 4; j++) {
                add(ofSide, x.odds(i, j, 0), x.odds(i, j, 1));
                add(atPlace, x.odds(j, i, 0), x.odds(j, i, 1));
            }
            due(19, "all odds of SIDE " + i, ofSide[0].equals(ofSide[1]) ? 1 : 0, 1);
            due(19, "all odds at PLACE " + i, atPlace[0].equals(atPlace[1]) ? 1 : 0, 1);
        }
        LosingLeague sure = told("sides 2;round;round;");
        endAll(sure, 0, 0);
        due(19, "sure", sure.odds(0, 0, 0), 1);
        due(19, "sure", sure.odds(0, 0, 1), 1);
        due(19, "never", sure.odds(0, 1, 0), 0);
        due(19, "never", sure.odds(0, 1, 1), 1);
    }

    private static void add(BigInteger[] sum, long above, long below) {
        BigInteger a = BigInteger.valueOf(above), b = BigInteger.valueOf(below);
        sum[0] = sum[0].multiply(b).add(a.multiply(sum[1]));
        sum[1] = sum[1].multiply(b);
    }

    public static void main(String[] args) {
        sevenOpen();
        fiveOpen();
        sidesAndPlaces();
        worthByCounting();
        greaterAlone();
        decidedOrNot();
        pairsOfAll();
        playedFromTheLast();
        oddsAreWhole();
        finish();
    }
}
