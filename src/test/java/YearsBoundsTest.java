import java.math.BigInteger;

/** Promises 23 to 25: each boundary that the document names of YEARS, its DRAW, THUMBS and fines. */
public final class YearsBoundsTest extends Bench {
    private static final int[] SEEDS = {0, 1, -1, 2, 12345, -12345, 65535, 65536, 1 << 30, MIN, MIN + 1, MAX - 1, MAX};

    /** The DRAW by whole numbers, without a machine's wrap-around. */
    private static final class Drawer {
        private static final BigInteger ALL = BigInteger.ONE.shiftLeft(32);
        private BigInteger seed;

        Drawer(int from) {
            seed = BigInteger.valueOf(from).mod(ALL);
        }

        int draw(int k) {
            seed = seed.multiply(BigInteger.valueOf(1103515245)).add(BigInteger.valueOf(12345)).mod(ALL);
            int bits = 0;
            for (int bit = 16; bit <= 30; bit++) {
                bits += seed.testBit(bit) ? 1 << (bit - 16) : 0;
            }
            return bits % k;
        }
    }

    /** "YEARS (1 to 40)", and each what for each number of SIDES. */
    private static void bounds() {
        for (int n = 2; n <= 6; n++) {
            LosingLeague x = told("sides " + n + ";");
            int[] years = {MIN, -1, 0, 1, 2, 39, 40, 41, 100, MAX};
            for (int y : years) {
                boolean fine = y >= 1 && y <= 40;
                due(23, "years(" + y + ", 3, 10) of " + n, x.years(y, 3, 10), fine ? Math.max(1, 5 - y) : BAD);
                due(23, "years(" + y + ", 3, 5) of " + n, x.years(y, 3, 5), BAD);
            }
            for (int what = -2; what <= 20; what++) {
                boolean fine = (what >= 0 && what <= 4) || (what >= 10 && what < 10 + n);
                int got = x.years(1, 3, what);
                // by a year alone there is no later one
                due(23, "years(1, 3, " + what + ") of " + n, got == BAD ? BAD : 0, fine ? 0 : BAD);
                due(23, "years(41, 3, " + what + ") of " + n, x.years(41, 3, what), BAD);
            }
            due(23, "years(1, 3, MIN)", x.years(1, 3, MIN), BAD);
            due(23, "years(1, 3, MAX)", x.years(1, 3, MAX), BAD);
        }
    }

    /** With worths of 10 all STRENGTHS stay: then years are rows of DRAWS, and so are their answers. */
    private static void drawsAlone() {
        LosingLeague x = told("sides 2;choice 0 10;choice 1 10;");
        int[] lengths = {1, 2, 3, 40};
        for (int seed : SEEDS) {
            for (int n : lengths) {
                Drawer d = new Drawer(seed);
                int[] first = new int[n];
                boolean zero = false, one = false;
                int fewest = NONE;
                for (int y = 0; y < n; y++) {
                    first[y] = d.draw(16) < 8 ? 0 : 1;
                    zero |= first[y] == 0;
                    one |= first[y] == 1;
                    for (int ago = y; ago >= 1; ago--) {
                        if (first[y - ago] != first[y] && (fewest == NONE || ago < fewest)) {
                            fewest = ago;
                        }
                    }
                }
                String what = "years(" + n + ", " + seed + ", ";
                LosingLeague each = seed % 2 == 0 ? x : told("sides 2;choice 0 10;choice 1 19;");
                due(23, what + "0)", each.years(n, seed, 0), first[n - 1]);
                due(23, what + "1)", each.years(n, seed, 1), (zero ? 1 : 0) + (one ? 1 : 0));
                due(23, what + "2)", each.years(n, seed, 2), 0);
                due(23, what + "3)", each.years(n, seed, 3), 0);
                due(23, what + "4)", each.years(n, seed, 4), fewest);
                due(23, what + "10)", each.years(n, seed, 10), 5);
            }
        }
    }

    /** "a DRAW of 16 below its ODDS": the DRAW just below them, and as great. */
    private static void belowItsOdds() {
        for (int strength = 1; strength <= 9; strength++) {
            LosingLeague x = told("sides 2;strength 0 " + strength + ";round;");
            int odds = x.of(0, 3);
            boolean below = false, asGreat = false;
            for (int seed = 0; seed < 400; seed++) {
                int drawn = new Drawer(seed).draw(16);
                if (drawn == odds || drawn == odds - 1) {
                    LosingLeague y = told("sides 2;strength 0 " + strength + ";");
                    due(23, "a DRAW of " + drawn + ", ODDS " + odds, y.years(1, seed, 0), drawn < odds ? 0 : 1);
                    below |= drawn < odds;
                    asGreat |= drawn == odds;
                }
            }
            due(23, "both sides of the ODDS were met", below && asGreat ? 1 : 0, 1);
        }
    }

    /** "4 the fewest years from a year in which a SIDE was last to a later one in which it was first (NONE)". */
    private static void fromLastToFirst() {
        for (int seed = 0; seed < 60; seed++) {
            LosingLeague x = told("sides 3;choice 0 10;choice 1 10;choice 2 10;");
            due(23, "one year", x.years(1, seed, 4), NONE);
            // two years: the last of the first year is the first of the second, or nobody comes up
            Drawer d = new Drawer(seed);
            int[] one = threeSides(d), two = threeSides(d), three = threeSides(d);
            int afterTwo = one[2] == two[0] ? 1 : NONE;
            due(23, "two years from " + seed, x.years(2, seed, 4), afterTwo);
            int afterThree = afterTwo == 1 || two[2] == three[0] ? 1 : one[2] == three[0] ? 2 : NONE;
            due(23, "three years from " + seed, x.years(3, seed, 4), afterThree);
            due(23, "the last year's first", x.years(3, seed, 0), three[0]);
        }
    }

    /** The TABLE of a year of three SIDES of STRENGTH 5. */
    private static int[] threeSides(Drawer d) {
        int[] won = new int[3];
        won[d.draw(16) < 8 ? 0 : 1]++;
        won[d.draw(16) < 8 ? 0 : 2]++;
        won[d.draw(16) < 8 ? 1 : 2]++;
        int[] table = new int[3];
        int at = 0;
        for (int wins = 2; wins >= 0; wins--) {
            for (int s = 0; s < 3; s++) {
                if (won[s] == wins) {
                    table[at++] = s;
                }
            }
        }
        return table;
    }

    /** "by 10, divided down, and is then 1 less (1 to 9)": worths and STRENGTHS on both sides of each step. */
    private static void strengthsInBounds() {
        for (int strength = 1; strength <= 9; strength++) {
            for (int worth = 0; worth <= 99; worth++) {
                LosingLeague x = told("sides 2;rule wheel;strength 0 " + strength + ";choice 0 " + worth + ";");
                int more = Integer.parseInt("0" + (worth < 10 ? "" : ("" + worth).substring(0, 1)));
                int grown = strength + more - 1;
                int due = grown < 1 ? 1 : grown > 9 ? 9 : grown;
                due(23, "STRENGTH " + strength + " and a choice of " + worth, x.years(1, 0, 10), due);
                due(23, "the other one", x.years(1, 0, 11), 4);
                due(23, "difference", x.years(1, 0, 2), Math.abs(due - 4));
            }
        }
        LosingLeague low = told("sides 2;rule wheel;strength 0 1;strength 1 2;");
        due(23, "1 stays 1", low.years(1, 0, 10), 1);
        due(23, "2 becomes 1", low.years(1, 0, 11), 1);
        due(23, "1 stays 1 for long", low.years(40, 0, 11), 1);
        LosingLeague high = told("sides 2;rule wheel;strength 0 9;strength 1 8;choice 0 10;choice 1 20;");
        due(23, "9 stays 9 by one more and one less", high.years(40, 0, 10), 9);
        due(23, "8 becomes 9", high.years(1, 0, 11), 9);
        due(23, "9 stays 9 for long", high.years(40, 0, 11), 9);
    }

    /** "2 the greatest difference of STRENGTHS at the end, 3 the greatest in any year's end": the start is none. */
    private static void differences() {
        LosingLeague x = told("sides 2;rule wheel;strength 0 1;strength 1 9;choice 0 20;");
        // 0 has 2, 3, 4, 5, 6, 7, 8, 9, 9 and 1 has 8, 7, 6, 5, 4, 3, 2, 1, 1 at the years' ends
        int[] ends = {6, 4, 2, 0, 2, 4, 6, 8, 8};
        int[] most = {6, 6, 6, 6, 6, 6, 6, 8, 8};
        for (int y = 1; y <= 9; y++) {
            due(23, "difference at the end of " + y, x.years(y, 77, 2), ends[y - 1]);
            due(23, "the greatest in " + y, x.years(y, 77, 3), most[y - 1]);
        }
        // a call does not know of those ahead of it
        for (int y = 9; y >= 1; y--) {
            due(23, "the greatest in " + y + ", behind more years", x.years(y, 77, 3), most[y - 1]);
        }
        LosingLeague six = told("sides 6;rule wheel;choice 5 99;strength 2 1;");
        due(23, "9 and 1", six.years(1, 5, 2), 8);
        LosingLeague two = told("sides 2;");
        due(23, "SIDES that are not there do not count", two.years(40, 5, 3), 0);
    }

    /** "balls: a DRAW of all balls: SIDES from the last one on, one behind another". */
    private static void ballsDrawn() {
        int[][] balls = {{1, 2}, {2, 1}, {0, 3}, {3, 0}, {20, 19}, {1, 1}, {0, 1}, {1, 0}};
        for (int[] b : balls) {
            LosingLeague x = told("sides 2;rule balls;choice 0 30;balls 0 " + b[0] + ";balls 1 " + b[1] + ";");
            boolean lowest = false, highest = false;
            for (int seed = -60; seed < 60; seed++) {
                int far = seed * 35791393;
                Drawer d = new Drawer(far);
                int first = d.draw(16) < 8 ? 0 : 1;
                int ball = d.draw(b[0] + b[1]);
                int chooses = ball < b[0] ? 1 - first : first;
                lowest |= ball == 0;
                highest |= ball == b[0] + b[1] - 1;
                due(23, "balls " + b[0] + " and " + b[1] + ", seed " + far, x.years(1, far, 10 + chooses), 7);
                due(23, "balls " + b[0] + " and " + b[1] + ", seed " + far, x.years(1, far, 11 - chooses), 4);
            }
            due(23, "the first and the last ball were met", lowest && highest ? 1 : 0, 1);
        }
    }

    /** "then by the rule": worst and alike give to the last, the wheel as told, the day to who won when OUT. */
    private static void byTheRule() {
        for (int seed : SEEDS) {
            int first = new Drawer(seed).draw(16) < 8 ? 0 : 1;
            String[] toTheLast = {"rule worst;", "", "rule alike;", "rule day;"};
            for (String rule : toTheLast) {
                LosingLeague x = told("sides 2;" + rule + "choice 0 20;choice 1 30;");
                due(23, rule + " the last one", x.years(1, seed, 11 - first), 6);
                due(23, rule + " the first one", x.years(1, seed, 10 + first), 7);
            }
            LosingLeague wheel = told("sides 2;rule wheel;wheel 0 1;wheel 1 0;choice 0 20;choice 1 30;");
            due(23, "wheel", wheel.years(1, seed, 11), 6);
            due(23, "wheel", wheel.years(1, seed, 10), 7);
        }
    }

    /** By day, of three SIDES: who was OUT ahead of GAME 2 and won it chooses ahead of who lost it. */
    private static void byTheDay() {
        boolean met = false;
        for (int seed = 0; seed < 40; seed++) {
            Drawer d = new Drawer(seed);
            boolean zeroWonBoth = d.draw(16) < 8 & d.draw(16) < 8;
            boolean oneWon = d.draw(16) < 8;
            LosingLeague x = told("sides 3;rule day;choice 0 30;choice 1 20;choice 2 10;");
            if (zeroWonBoth) {
                // behind GAME 1: 0 won two, 1 and 2 have one to come: both are OUT, and one of them wins it
                due(23, "the winner grows most", x.years(1, seed, oneWon ? 11 : 12), 7);
                due(23, "the loser grows less", x.years(1, seed, oneWon ? 12 : 11), 6);
                due(23, "the first one least", x.years(1, seed, 10), 5);
                met = true;
            }
        }
        due(23, "such a year was met", met ? 1 : 0, 1);
    }

    /** "from STRENGTHS as they are", "Nothing else changes by it." */
    private static void nothingElse() {
        LosingLeague x = told("sides 3;rule balls;strength 0 9;choice 0 50;round;");
        x.ends(1, 1);
        x.feed(7);
        x.sheet(0, 1, 2);
        String was = seen(x);
        int once = x.years(40, 99, 12);
        due(23, "again", x.years(40, 99, 12), once);
        same(23, "what holds behind years", seen(x), was);
        x.years(1, 1, 3);
        due(23, "again", x.years(40, 99, 12), once);
        // neither GAMES nor their ENDS are looked at
        tell(x, "sides 3;rule balls;strength 0 9;choice 0 50;");
        due(23, "without GAMES", x.years(40, 99, 12), once);
    }

    private static BigInteger atLeast(int m, int r) {
        BigInteger[] ways = new BigInteger[m + 2];
        java.util.Arrays.fill(ways, BigInteger.ZERO);
        ways[0] = BigInteger.ONE;
        for (int game = 0; game < m; game++) {
            for (int k = game + 1; k >= 1; k--) {
                ways[k] = ways[k].multiply(BigInteger.valueOf(5)).add(ways[k - 1]);
            }
            ways[0] = ways[0].multiply(BigInteger.valueOf(5));
        }
        BigInteger all = BigInteger.ZERO;
        for (int k = r; k <= m; k++) {
            all = all.add(ways[k]);
        }
        return all;
    }

    /** "m (1 to 20) GAMES, r (0 to m)", all of them, in lowest terms. */
    private static void thumbsOfAll() {
        for (int m = 0; m <= 21; m++) {
            LosingLeague x = new LosingLeague();
            for (int r = -1; r <= m + 1; r++) {
                for (int what = -1; what <= 2; what++) {
                    boolean fine = m >= 1 && m <= 20 && r >= 0 && r <= m && (what == 0 || what == 1);
                    long want = BAD;
                    if (fine) {
                        BigInteger above = atLeast(m, r), below = BigInteger.valueOf(6).pow(m);
                        BigInteger g = above.gcd(below);
                        want = (what == 0 ? above : below).divide(g).longValueExact();
                    }
                    due(24, "thumbs(" + m + ", " + r + ", " + what + ")", x.thumbs(m, r, what), want);
                }
            }
        }
        LosingLeague x = new LosingLeague();
        int[] far = {MIN, MAX};
        for (int f : far) {
            due(24, "thumbs(far, 0, 0)", x.thumbs(f, 0, 0), BAD);
            due(24, "thumbs(20, far, 0)", x.thumbs(20, f, 0), BAD);
            due(24, "thumbs(far, far, 0)", x.thumbs(f, f, 0), BAD);
            due(24, "thumbs(1, 1, far)", x.thumbs(1, 1, f), BAD);
            due(25, "fine(far, 2)", x.fine(f, 2), BAD);
            due(25, "fine(1, far)", x.fine(1, f), BAD);
        }
        due(24, "thumbs(1, 0, 0)", x.thumbs(1, 0, 0), 1);
        due(24, "thumbs(20, 0, 0)", x.thumbs(20, 0, 0), 1);
        due(24, "thumbs(20, 20, 0)", x.thumbs(20, 20, 0), 1);
        due(24, "thumbs(20, 20, 1)", x.thumbs(20, 20, 1), 3656158440062976L);
    }

    /** "one by x (2 to 1000) or less", "NONE: not even m": all of them. */
    private static void fines() {
        for (int m = 0; m <= 21; m++) {
            BigInteger all = BigInteger.valueOf(6).pow(m);
            BigInteger[] often = new BigInteger[m + 1];
            for (int r = 0; r <= m; r++) {
                often[r] = atLeast(m, r);
            }
            LosingLeague x = new LosingLeague();
            int calls = 0;
            for (int bound = 0; bound <= 1002; bound++) {
                int want = BAD;
                if (m >= 1 && m <= 20 && bound >= 2 && bound <= 1000) {
                    want = NONE;
                    for (int r = m; r >= 0; r--) {
                        want = often[r].multiply(BigInteger.valueOf(bound)).compareTo(all) <= 0 ? r : want;
                    }
                }
                if (calls++ == 500) {
                    x = new LosingLeague();
                    calls = 0;
                }
                due(25, "fine(" + m + ", " + bound + ")", x.fine(m, bound), want);
            }
        }
        LosingLeague x = new LosingLeague();
        int[][] edges = {{1, 6, 1}, {1, 7, NONE}, {2, 36, 2}, {2, 37, NONE}, {3, 216, 3}, {3, 217, NONE}, {4, 1000, 4}};
        for (int[] e : edges) {
            due(25, "fine(" + e[0] + ", " + e[1] + ")", x.fine(e[0], e[1]), e[2]);
        }
    }

    public static void main(String[] args) {
        bounds();
        drawsAlone();
        belowItsOdds();
        fromLastToFirst();
        strengthsInBounds();
        differences();
        ballsDrawn();
        byTheRule();
        byTheDay();
        nothingElse();
        thumbsOfAll();
        fines();
        finish();
    }
}
