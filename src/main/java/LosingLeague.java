/** A league in which it may pay to lose; the document's promises, each a public method. */
public final class LosingLeague {
    public static final int BAD = -1, STATE = -2, FULL = -3, NONE = -4;

    private static final int MOST_SIDES = 6, MOST_GAMES = 30, MOST_BYTES = 240;
    private static final int MOST_OPEN = 7, MOST_PLAYED = 5, MOST_YEARS = 40;
    private static final int MOST_CELLS = 40, SHEETS = 4, LANES = 3, MOST_THUMBS = 20;
    private static final int FIRST_WON = 0, SECOND_WON = 1, OPEN = 2;
    private static final int BY_WORST = 0, BY_BALLS = 1, BY_DAY = 2, BY_WHEEL = 3, BY_ALIKE = 4;
    private static final int NO_FAULT = 0, NULL_FAULT = 1, INDEX_FAULT = 2, CAST_FAULT = 3, SIZE_FAULT = 4;
    private static final int ODDS_OF = 16;

    private final Rules rules = new Rules();
    private final Games games = new Games();
    private final Standing standing = new Standing();
    private final Reader reader = new Reader();
    private final Tree tree = new Tree();
    private final Years course = new Years();
    private final Sheet[] sheets = new Sheet[SHEETS];
    private int textFault;
    private int readFault;

    public LosingLeague() {
        rules.reset();
        for (int k = 0; k < SHEETS; k++) {
            sheets[k] = new Sheet();
        }
    }

    // ---- the text

    public int feed(long v) {
        Tape tape = reader.tape;
        if (tape.length + 8 > MOST_BYTES) {
            return FULL;
        }
        tape.put(v);
        return tape.length;
    }

    public int end(int n) {
        int had = reader.tape.length;
        if (n < 0 || n > had) {
            return BAD;
        }
        reader.tape.length = n;
        return had;
    }

    public int text() {
        boolean taken = reader.takeAll();
        reader.tape.length = 0;
        textFault = reader.flaw;
        if (!taken) {
            return -10 - reader.flawPlace;
        }
        rules.copyFrom(reader.draft);
        games.size = 0;
        for (int r = 0; r < rules.rounds; r++) {
            games.addRound(rules.sides);
        }
        return reader.lines;
    }

    public int fault() {
        return textFault;
    }

    public int rule(int what) {
        if (what == 0) {
            return rules.sides;
        }
        if (what == 1) {
            return rules.kind;
        }
        if (what < 10 || what > 59 || what % 10 >= rules.sides) {
            return BAD;
        }
        int i = what % 10;
        switch (what / 10) {
            case 1: return rules.strength[i];
            case 2: return rules.placeWorth[i];
            case 3: return rules.choiceWorth[i];
            case 4: return rules.balls[i];
            default: return rules.wheel[i];
        }
    }

    // ---- games

    public int game(int first, int second) {
        if (!isSide(first) || !isSide(second) || first == second) {
            return BAD;
        }
        if (games.size >= MOST_GAMES) {
            return FULL;
        }
        return games.add(first, second);
    }

    public int of(int g, int what) {
        if (!games.has(g)) {
            return BAD;
        }
        int one = games.first[g];
        int other = games.second[g];
        switch (what) {
            case 0: return one;
            case 1: return other;
            case 2: return games.ending[g];
            case 3: return chance(rules.strength[one], rules.strength[other]);
            case 4: return chance(rested(rules.strength[one]), rules.strength[other]);
            case 5: return chance(rules.strength[one], rested(rules.strength[other]));
            default: return BAD;
        }
    }

    public int ends(int g, int e) {
        if (!games.has(g) || e < FIRST_WON || e > OPEN) {
            return BAD;
        }
        int was = games.ending[g];
        games.ending[g] = e;
        return was;
    }

    public int table(int place, int what) {
        if (!isSide(place) || what < 0 || what > 2) {
            return BAD;
        }
        standing.settle(games, rules.sides);
        int side = standing.order[place];
        switch (what) {
            case 0: return side;
            case 1: return standing.won[side];
            default: return games.openOf(side);
        }
    }

    public int may(int side, int place) {
        if (!isSide(side) || !isSide(place)) {
            return BAD;
        }
        if (games.openOnes() > MOST_OPEN) {
            return STATE;
        }
        return tree.reaches(rules, games, side, place) ? 1 : 0;
    }

    public int out(int side) {
        if (!isSide(side)) {
            return BAD;
        }
        standing.settle(games, rules.sides);
        standing.findOut(games);
        return standing.outAt[side];
    }

    public int chooses(int choice, int b) {
        if (!isSide(choice)) {
            return BAD;
        }
        standing.settle(games, rules.sides);
        if (rules.kind == BY_BALLS && (!isSide(b) || standing.ballsOf(rules, b) == 0)) {
            return BAD;
        }
        if (games.openOnes() > 0) {
            return STATE;
        }
        if (rules.kind == BY_ALIKE) {
            return NONE;
        }
        standing.findOut(games);
        standing.arrange(rules, b);
        return standing.turn[choice];
    }

    public int pay(int side, int what) {
        if (!isSide(side) || !isPart(what)) {
            return BAD;
        }
        if (games.openOnes() > 0) {
            return STATE;
        }
        tree.growPays(rules, games);
        return (int) part(tree.expected(side), tree.scale(), what);
    }

    // ---- worths

    public long worth(int side, int what) {
        if (!isSide(side) || !isPart(what)) {
            return BAD;
        }
        if (games.openOnes() > MOST_OPEN) {
            return STATE;
        }
        tree.growPays(rules, games);
        return part(tree.expected(side), tree.scale(), what);
    }

    public long worthIf(int side, int g, boolean won, int what) {
        if (!isSide(side) || !games.isOpen(g) || !games.isOf(g, side) || !isPart(what)) {
            return BAD;
        }
        if (games.openOnes() > MOST_OPEN) {
            return STATE;
        }
        tree.growPays(rules, games);
        return part(tree.expectedIf(side, g, won), tree.scale(), what);
    }

    public int wants(int g) {
        if (!games.isOpen(g)) {
            return BAD;
        }
        if (games.openOnes() > MOST_OPEN) {
            return STATE;
        }
        tree.growPays(rules, games);
        return tree.losers(g);
    }

    public int lose(int side, int what) {
        if (what < 0 || what > 2 || (what != 1 && !isSide(side))) {
            return BAD;
        }
        if (games.openOnes() > MOST_OPEN) {
            return STATE;
        }
        tree.growPays(rules, games);
        switch (what) {
            case 0: return tree.firstUnwanted(side);
            case 1: return tree.firstUnwantedByBoth();
            default: return tree.howManyUnwanted(side);
        }
    }

    public long odds(int side, int place, int what) {
        if (!isSide(side) || !isSide(place) || !isPart(what)) {
            return BAD;
        }
        if (games.openOnes() > MOST_OPEN) {
            return STATE;
        }
        tree.growPlace(rules, games, side, place);
        return part(tree.expected(side), tree.allChances(), what);
    }

    public int play(int what) {
        if (what < 0 || what > 2) {
            return BAD;
        }
        int open = games.openOnes();
        if (open > MOST_PLAYED || open == 0) {
            return STATE;
        }
        tree.growPays(rules, games);
        tree.playBack();
        switch (what) {
            case 0: return tree.pair;
            case 1: return tree.settled ? 1 : 0;
            default: return tree.open[0];
        }
    }

    public long played(int side, int what) {
        if (!isSide(side) || !isPart(what)) {
            return BAD;
        }
        if (games.openOnes() > MOST_PLAYED) {
            return STATE;
        }
        tree.growPays(rules, games);
        tree.playBack();
        return part(tree.value[side], tree.scale(), what);
    }

    public int pays(int what) {
        if (what < 0 || what > 2) {
            return BAD;
        }
        if (games.openOnes() > MOST_OPEN) {
            return STATE;
        }
        tree.growPays(rules, games);
        tree.countBack();
        switch (what) {
            case 0: return tree.unwanted;
            case 1: return tree.firstPaying;
            default: return (1 << tree.depth) - 1;
        }
    }

    // ---- years, thumbs

    public int years(int n, int seed, int what) {
        boolean ofSide = what >= 10 && isSide(what - 10);
        if (n < 1 || n > MOST_YEARS || (!ofSide && (what < 0 || what > 4))) {
            return BAD;
        }
        course.pass(rules, n, seed);
        switch (what) {
            case 0: return course.champion;
            case 1: return Integer.bitCount(course.champions);
            case 2: return course.gap;
            case 3: return course.widestGap;
            case 4: return course.fewest;
            default: return course.strength[what - 10];
        }
    }

    public long thumbs(int m, int r, int what) {
        if (m < 1 || m > MOST_THUMBS || r < 0 || r > m || !isPart(what)) {
            return BAD;
        }
        return part(restedOrMore(m, r), power(6, m), what);
    }

    public int fine(int m, int x) {
        if (m < 1 || m > MOST_THUMBS || x < 2 || x > 1000) {
            return BAD;
        }
        long all = power(6, m);
        for (int r = 0; r <= m; r++) {
            if (restedOrMore(m, r) * x <= all) {
                return r;
            }
        }
        return NONE;
    }

    // ---- sheets

    public int sheet(int k, int lane, int n) {
        if (!isSheet(k) || !isLane(lane) || n > MOST_CELLS) {
            return BAD;
        }
        if (n < 0) {
            return -10 - SIZE_FAULT;
        }
        sheets[k].renew(lane, n);
        return 1;
    }

    public int lay(int k, int i, int v) {
        if (!isSheet(k)) {
            return BAD;
        }
        Sheet row = sheets[k];
        if (!row.exists) {
            return -10 - NULL_FAULT;
        }
        if (!row.has(i)) {
            return -10 - INDEX_FAULT;
        }
        row.put(i, v);
        return 1;
    }

    public int read(int k, int lane, int f, int g, int n) {
        if (!isSheet(k) || !isLane(lane) || n < 0 || n > MOST_GAMES) {
            return BAD;
        }
        if (g < 0 || g > games.size || n > games.size - g) {
            return BAD;
        }
        Sheet row = sheets[k];
        int whole = row.readable(lane, f, n);
        for (int i = 0; i < whole; i++) {
            int cell = row.cells[f + i];
            if (cell < FIRST_WON || cell > OPEN) {
                return -20 - i;
            }
        }
        readFault = row.machineFault(lane, whole, n);
        return takeEnds(row, f, g, whole);
    }

    public int torn() {
        return readFault;
    }

    public int count(int what) {
        switch (what) {
            case 0: return rules.sides;
            case 1: return games.size;
            case 2: return games.openOnes();
            case 3: return rules.allBalls();
            case 4: return reader.tape.length;
            case 5: return sheets[0].exists ? sheets[0].length : NONE;
            default: return BAD;
        }
    }

    // ---- what several calls share

    /** PLACES and choices have the bounds of SIDES, so all three are tested here. */
    private boolean isSide(int s) {
        return s >= 0 && s < rules.sides;
    }

    private static boolean isPart(int what) {
        return what == 0 || what == 1;
    }

    private static boolean isSheet(int k) {
        return k >= 0 && k < SHEETS;
    }

    private static boolean isLane(int lane) {
        return lane >= 0 && lane < LANES;
    }

    private int takeEnds(Sheet row, int from, int g, int many) {
        int others = 0;
        for (int i = 0; i < many; i++) {
            int cell = row.cells[from + i];
            if (games.ending[g + i] != cell) {
                games.ending[g + i] = cell;
                others++;
            }
        }
        return others;
    }

    private static int chance(int one, int other) {
        int both = one + other;
        if (both <= 0) {
            return 1;
        }
        return Math.max(1, Math.min(ODDS_OF - 1, ODDS_OF * one / both));
    }

    private static int rested(int strength) {
        return Math.max(1, strength / 2);
    }

    private static long part(long above, long below, int what) {
        long common = divisor(above, below);
        if (common <= 0) {
            return 0;
        }
        return what == 0 ? above / common : below / common;
    }

    private static long divisor(long a, long b) {
        // Euclid needs fewer than 100 steps for longs
        for (int step = 0; step < 100 && b != 0; step++) {
            long rest = a % b;
            a = b;
            b = rest;
        }
        return a;
    }

    private static long power(int base, int times) {
        long all = 1;
        for (int i = 0; i < times; i++) {
            all *= base;
        }
        return all;
    }

    /** Of 6 to the m ways, those in which r or more of m GAMES are rested ones. */
    private static long restedOrMore(int m, int r) {
        long ways = 0;
        long picks = 1;
        for (int k = 0; k <= m; k++) {
            if (k >= r) {
                ways += picks * power(5, m - k);
            }
            picks = picks * (m - k) / (k + 1);
        }
        return ways;
    }

    /** What a text tells, but for the GAMES of its rounds, of which only the number is kept. */
    private static final class Rules {
        final int[] strength = new int[MOST_SIDES];
        final int[] placeWorth = new int[MOST_SIDES];
        final int[] choiceWorth = new int[MOST_SIDES];
        final int[] balls = new int[MOST_SIDES];
        final int[] wheel = new int[MOST_SIDES];
        int sides;
        int kind;
        int rounds;

        void reset() {
            sides = 4;
            kind = BY_WORST;
            rounds = 0;
            for (int i = 0; i < MOST_SIDES; i++) {
                strength[i] = 5;
                placeWorth[i] = 0;
                choiceWorth[i] = 0;
                balls[i] = 1;
                wheel[i] = i;
            }
        }

        void copyFrom(Rules told) {
            sides = told.sides;
            kind = told.kind;
            rounds = told.rounds;
            for (int i = 0; i < MOST_SIDES; i++) {
                strength[i] = told.strength[i];
                placeWorth[i] = told.placeWorth[i];
                choiceWorth[i] = told.choiceWorth[i];
                balls[i] = told.balls[i];
                wheel[i] = told.wheel[i];
            }
        }

        int gamesOfRound() {
            return sides * (sides - 1) / 2;
        }

        int allBalls() {
            int all = 0;
            for (int i = 0; i < sides; i++) {
                all += balls[i];
            }
            return all;
        }

        int allChoices() {
            int all = 0;
            for (int i = 0; i < sides; i++) {
                all += choiceWorth[i];
            }
            return all;
        }

        boolean wheelHasTwice() {
            int seen = 0;
            for (int i = 0; i < sides; i++) {
                seen |= 1 << wheel[i];
            }
            return Integer.bitCount(seen) < sides;
        }

        /** By what a PAY, held as a whole number, must be divided. */
        int payUnit() {
            switch (kind) {
                case BY_BALLS: return Math.max(1, allBalls());
                case BY_ALIKE: return sides;
                default: return 1;
            }
        }
    }

    /** GAMES by numbers. */
    private static final class Games {
        final int[] first = new int[MOST_GAMES];
        final int[] second = new int[MOST_GAMES];
        final int[] ending = new int[MOST_GAMES];
        int size;

        int add(int one, int other) {
            if (size >= MOST_GAMES) {
                return FULL;
            }
            first[size] = one;
            second[size] = other;
            ending[size] = OPEN;
            size++;
            return size - 1;
        }

        void addRound(int sides) {
            for (int one = 0; one < sides; one++) {
                for (int other = one + 1; other < sides; other++) {
                    add(one, other);
                }
            }
        }

        void copyFrom(Games others) {
            size = others.size;
            for (int g = 0; g < size; g++) {
                first[g] = others.first[g];
                second[g] = others.second[g];
                ending[g] = others.ending[g];
            }
        }

        boolean has(int g) {
            return g >= 0 && g < size;
        }

        boolean isOpen(int g) {
            return has(g) && ending[g] == OPEN;
        }

        boolean isOf(int g, int side) {
            return has(g) && (first[g] == side || second[g] == side);
        }

        int openOnes() {
            int many = 0;
            for (int g = 0; g < size; g++) {
                if (ending[g] == OPEN) {
                    many++;
                }
            }
            return many;
        }

        int openOf(int side) {
            int many = 0;
            for (int g = 0; g < size; g++) {
                if (ending[g] == OPEN && isOf(g, side)) {
                    many++;
                }
            }
            return many;
        }

        int winner(int g) {
            return ending[g] == FIRST_WON ? first[g] : second[g];
        }
    }

    /** The TABLE of some GAMES, who is OUT by them, and who chooses when. */
    private static final class Standing {
        /** Below every number of games won since, so that such SIDES come behind all others. */
        private static final int NEVER_OUT = -1;

        final int[] won = new int[MOST_SIDES];
        final int[] order = new int[MOST_SIDES];
        final int[] seat = new int[MOST_SIDES];
        final int[] outAt = new int[MOST_SIDES];
        final int[] merit = new int[MOST_SIDES];
        final int[] toCome = new int[MOST_SIDES];
        final int[] turn = new int[MOST_SIDES];
        int sides;

        void settle(Games games, int howMany) {
            sides = howMany;
            for (int s = 0; s < sides; s++) {
                won[s] = 0;
            }
            for (int g = 0; g < games.size; g++) {
                if (games.ending[g] != OPEN) {
                    won[games.winner(g)]++;
                }
            }
            for (int s = 0; s < sides; s++) {
                int at = s;
                while (at > 0 && won[order[at - 1]] < won[s]) {
                    order[at] = order[at - 1];
                    at--;
                }
                order[at] = s;
            }
            for (int p = 0; p < sides; p++) {
                seat[order[p]] = p;
            }
        }

        int fromLast(int many) {
            return order[sides - 1 - many];
        }

        int ballsOf(Rules rules, int side) {
            return rules.balls[sides - 1 - seat[side]];
        }

        /** Behind settle: wins are counted a second time, GAME by GAME, to see when a SIDE falls OUT. */
        void findOut(Games games) {
            for (int s = 0; s < sides; s++) {
                outAt[s] = NONE;
                merit[s] = NEVER_OUT;
                won[s] = 0;
                toCome[s] = 0;
            }
            for (int g = 0; g < games.size; g++) {
                toCome[games.first[g]]++;
                toCome[games.second[g]]++;
            }
            int most = 0;
            for (int g = 0; g < games.size; g++) {
                if (games.ending[g] != OPEN) {
                    toCome[games.first[g]]--;
                    toCome[games.second[g]]--;
                    most = Math.max(most, countWin(games.winner(g)));
                    markOut(g, most);
                }
            }
        }

        private int countWin(int side) {
            won[side]++;
            if (merit[side] != NEVER_OUT) {
                merit[side]++;
            }
            return won[side];
        }

        /** The most games won are another SIDE's, wherever a SIDE stays below them. */
        private void markOut(int g, int most) {
            for (int s = 0; s < sides; s++) {
                if (outAt[s] == NONE && won[s] + toCome[s] < most) {
                    outAt[s] = g;
                    merit[s] = 0;
                }
            }
        }

        /** Behind settle (and findOut, by day): the SIDES as they choose; by alike as by worst. */
        void arrange(Rules rules, int ball) {
            switch (rules.kind) {
                case BY_WHEEL: turnWheel(rules); break;
                case BY_DAY: chooseByDay(); break;
                case BY_BALLS: chooseByBall(ball); break;
                default: chooseWorstFirst(); break;
            }
        }

        private void chooseWorstFirst() {
            for (int c = 0; c < sides; c++) {
                turn[c] = fromLast(c);
            }
        }

        private void turnWheel(Rules rules) {
            for (int c = 0; c < sides; c++) {
                turn[c] = rules.wheel[c];
            }
        }

        private void chooseByBall(int ball) {
            turn[0] = ball;
            int c = 1;
            for (int i = 0; i < sides; i++) {
                int side = fromLast(i);
                if (side != ball && c < sides) {
                    turn[c] = side;
                    c++;
                }
            }
        }

        private void chooseByDay() {
            // going up from the last one leaves SIDES that are alike in the order that is due
            for (int i = 0; i < sides; i++) {
                int side = fromLast(i);
                int at = i;
                while (at > 0 && merit[turn[at - 1]] < merit[side]) {
                    turn[at] = turn[at - 1];
                    at--;
                }
                turn[at] = side;
            }
        }

        /** PAY of every SIDE, times the rules' payUnit, into a row. */
        void payAll(Rules rules, Games games, long[] into, int from) {
            int unit = rules.payUnit();
            int alike = rules.kind == BY_ALIKE ? rules.allChoices() : 0;
            for (int s = 0; s < sides; s++) {
                into[from + s] = (long) rules.placeWorth[seat[s]] * unit + alike;
            }
            if (rules.kind == BY_ALIKE) {
                return;
            }
            if (rules.kind == BY_BALLS) {
                for (int i = 0; i < sides; i++) {
                    payChoices(rules, fromLast(i), rules.balls[i], into, from);
                }
                return;
            }
            if (rules.kind == BY_DAY) {
                findOut(games);
            }
            payChoices(rules, 0, 1, into, from);
        }

        private void payChoices(Rules rules, int ball, int times, long[] into, int from) {
            if (times == 0) {
                return;
            }
            arrange(rules, ball);
            for (int c = 0; c < sides; c++) {
                into[from + turn[c]] += (long) rules.choiceWorth[c] * times;
            }
        }
    }

    /**
     * All ways in which the OPEN GAMES can end: a row of ENDS is a number whose highest of depth
     * bits is the END of the first OPEN GAME, so that folding the rows two by two asks the last
     * GAME first.
     */
    private static final class Tree {
        final long[] leaf = new long[(1 << MOST_OPEN) * MOST_SIDES];
        final long[] column = new long[1 << MOST_OPEN];
        final long[] value = new long[MOST_SIDES];
        final int[] open = new int[MOST_OPEN];
        final int[] ofFirst = new int[MOST_OPEN];
        final int[] ofPair = new int[4];
        final Games trial = new Games();
        final Standing standing = new Standing();
        final Rules rules = new Rules();
        int depth;
        int pair;
        boolean settled;
        int unwanted;
        int firstPaying;

        /** The caller has seen that no more than MOST_OPEN are OPEN; more would be left out. */
        private void begin(Rules told, Games games) {
            rules.copyFrom(told);
            trial.copyFrom(games);
            depth = 0;
            for (int g = 0; g < games.size; g++) {
                if (games.ending[g] == OPEN && depth < MOST_OPEN) {
                    open[depth] = g;
                    ofFirst[depth] = chance(rules.strength[games.first[g]], rules.strength[games.second[g]]);
                    depth++;
                }
            }
        }

        private void lookAt(int row) {
            for (int d = 0; d < depth; d++) {
                trial.ending[open[d]] = (row >> (depth - 1 - d)) & 1;
            }
            standing.settle(trial, rules.sides);
        }

        void growPays(Rules told, Games games) {
            begin(told, games);
            for (int row = 0; row < 1 << depth; row++) {
                lookAt(row);
                standing.payAll(rules, trial, leaf, row * MOST_SIDES);
            }
        }

        void growPlace(Rules told, Games games, int side, int place) {
            begin(told, games);
            for (int row = 0; row < 1 << depth; row++) {
                lookAt(row);
                leaf[row * MOST_SIDES + side] = standing.seat[side] == place ? 1 : 0;
            }
        }

        boolean reaches(Rules told, Games games, int side, int place) {
            begin(told, games);
            for (int row = 0; row < 1 << depth; row++) {
                lookAt(row);
                if (standing.seat[side] <= place && winsAllOpen(side)) {
                    return true;
                }
            }
            return false;
        }

        private boolean winsAllOpen(int side) {
            for (int d = 0; d < depth; d++) {
                if (trial.isOf(open[d], side) && trial.winner(open[d]) != side) {
                    return false;
                }
            }
            return true;
        }

        long allChances() {
            return 1L << (4 * depth);
        }

        long scale() {
            return allChances() * rules.payUnit();
        }

        private static long mixed(int weight, long ifFirst, long ifSecond) {
            return weight * ifFirst + (ODDS_OF - weight) * ifSecond;
        }

        long expected(int side) {
            return fold(side, NONE, OPEN);
        }

        long expectedIf(int side, int g, boolean won) {
            boolean firstWins = (trial.first[g] == side) == won;
            return fold(side, g, firstWins ? FIRST_WON : SECOND_WON);
        }

        private long fold(int side, int fixed, int fixedEnd) {
            for (int row = 0; row < 1 << depth; row++) {
                column[row] = leaf[row * MOST_SIDES + side];
            }
            for (int d = depth - 1; d >= 0; d--) {
                int weight = ofFirst[d];
                if (open[d] == fixed) {
                    weight = fixedEnd == FIRST_WON ? ODDS_OF : 0;
                }
                for (int row = 0; row < 1 << d; row++) {
                    column[row] = mixed(weight, column[2 * row], column[2 * row + 1]);
                }
            }
            return column[0];
        }

        private boolean wantsToLose(int side, int g) {
            return expectedIf(side, g, false) > expectedIf(side, g, true);
        }

        int losers(int g) {
            int one = wantsToLose(trial.first[g], g) ? 1 : 0;
            int other = wantsToLose(trial.second[g], g) ? 2 : 0;
            return one + other;
        }

        int firstUnwanted(int side) {
            for (int d = 0; d < depth; d++) {
                if (trial.isOf(open[d], side) && wantsToLose(side, open[d])) {
                    return open[d];
                }
            }
            return NONE;
        }

        int firstUnwantedByBoth() {
            for (int d = 0; d < depth; d++) {
                if (losers(open[d]) == 3) {
                    return open[d];
                }
            }
            return NONE;
        }

        int howManyUnwanted(int side) {
            int many = 0;
            for (int d = 0; d < depth; d++) {
                if (trial.isOf(open[d], side) && wantsToLose(side, open[d])) {
                    many++;
                }
            }
            return many;
        }

        /** Folds all SIDES' columns at once in place; the leaves are lost by it. */
        private void join(int row, int weight) {
            int to = row * MOST_SIDES;
            for (int s = 0; s < rules.sides; s++) {
                leaf[to + s] = mixed(weight, leaf[2 * to + s], leaf[2 * to + MOST_SIDES + s]);
            }
        }

        void countBack() {
            unwanted = 0;
            firstPaying = NONE;
            for (int d = depth - 1; d >= 0; d--) {
                int before = unwanted;
                for (int row = 0; row < 1 << d; row++) {
                    unwanted += losersAt(d, row);
                    join(row, ofFirst[d]);
                }
                if (unwanted > before) {
                    firstPaying = open[d];
                }
            }
        }

        private int losersAt(int d, int row) {
            int one = trial.first[open[d]];
            int other = trial.second[open[d]];
            int ifFirst = 2 * row * MOST_SIDES;
            int ifSecond = ifFirst + MOST_SIDES;
            int many = leaf[ifSecond + one] > leaf[ifFirst + one] ? 1 : 0;
            return leaf[ifFirst + other] > leaf[ifSecond + other] ? many + 1 : many;
        }

        /** The pair and whether it is settled stay those of the first OPEN GAME, which is folded last. */
        void playBack() {
            for (int d = depth - 1; d >= 0; d--) {
                weighPairs(d);
                for (int row = 0; row < 1 << d; row++) {
                    choosePair(d, row);
                    join(row, ofPair[pair]);
                }
            }
            for (int s = 0; s < rules.sides; s++) {
                value[s] = leaf[s];
            }
        }

        /** Of a pair's number bit 1 is that the first one RESTS, bit 0 that the second one does. */
        private void weighPairs(int d) {
            int one = rules.strength[trial.first[open[d]]];
            int other = rules.strength[trial.second[open[d]]];
            for (int p = 0; p < 4; p++) {
                ofPair[p] = chance((p & 2) != 0 ? rested(one) : one, (p & 1) != 0 ? rested(other) : other);
            }
        }

        private void choosePair(int d, int row) {
            pair = 0;
            settled = false;
            for (int p = 0; p < 4 && !settled; p++) {
                if (!gains(trial.first[open[d]], row, p, p ^ 2) && !gains(trial.second[open[d]], row, p, p ^ 1)) {
                    pair = p;
                    settled = true;
                }
            }
        }

        private boolean gains(int side, int row, int held, int instead) {
            long ifFirst = leaf[2 * row * MOST_SIDES + side];
            long ifSecond = leaf[(2 * row + 1) * MOST_SIDES + side];
            return mixed(ofPair[instead], ifFirst, ifSecond) > mixed(ofPair[held], ifFirst, ifSecond);
        }
    }

    /** YEARS drawn one behind another, on STRENGTHS of their own. */
    private static final class Years {
        final int[] strength = new int[MOST_SIDES];
        final int[] wasLast = new int[MOST_SIDES];
        final Games season = new Games();
        final Standing standing = new Standing();
        int seed;
        int champion;
        int champions;
        int gap;
        int widestGap;
        int fewest;

        void pass(Rules rules, int years, int from) {
            seed = from;
            champions = 0;
            widestGap = 0;
            fewest = NONE;
            for (int s = 0; s < MOST_SIDES; s++) {
                strength[s] = rules.strength[s];
                wasLast[s] = NONE;
            }
            season.size = 0;
            season.addRound(rules.sides);
            for (int year = 0; year < years; year++) {
                playSeason(rules.sides);
                noteEnds(year);
                shareBoys(rules);
                gap = gapOf(rules.sides);
                widestGap = Math.max(widestGap, gap);
            }
        }

        private int draw(int k) {
            seed = seed * 1103515245 + 12345;
            int bits = (seed >>> 16) & 0x7fff;
            return k > 0 ? bits % k : 0;
        }

        private void playSeason(int sides) {
            for (int g = 0; g < season.size; g++) {
                int ofFirst = chance(strength[season.first[g]], strength[season.second[g]]);
                season.ending[g] = draw(ODDS_OF) < ofFirst ? FIRST_WON : SECOND_WON;
            }
            standing.settle(season, sides);
        }

        private void noteEnds(int year) {
            champion = standing.order[0];
            champions |= 1 << champion;
            if (wasLast[champion] != NONE) {
                int since = year - wasLast[champion];
                fewest = fewest == NONE ? since : Math.min(fewest, since);
            }
            wasLast[standing.fromLast(0)] = year;
        }

        private void shareBoys(Rules rules) {
            standing.findOut(season);
            standing.arrange(rules, rules.kind == BY_BALLS ? drawBall(rules) : 0);
            for (int c = 0; c < rules.sides; c++) {
                int side = standing.turn[c];
                int grown = strength[side] + rules.choiceWorth[c] / 10 - 1;
                strength[side] = Math.max(1, Math.min(9, grown));
            }
        }

        private int drawBall(Rules rules) {
            int drawn = draw(rules.allBalls());
            for (int i = 0; i < rules.sides; i++) {
                if (drawn < rules.balls[i]) {
                    return standing.fromLast(i);
                }
                drawn -= rules.balls[i];
            }
            return standing.fromLast(0);
        }

        private int gapOf(int sides) {
            int least = strength[0];
            int most = strength[0];
            for (int s = 1; s < sides; s++) {
                least = Math.min(least, strength[s]);
                most = Math.max(most, strength[s]);
            }
            return most - least;
        }
    }

    /** A row of CELLS; each is held as an int that its lane could hold. */
    private static final class Sheet {
        final int[] cells = new int[MOST_CELLS];
        boolean exists;
        int lane;
        int length;

        void renew(int newLane, int newLength) {
            exists = true;
            lane = newLane;
            length = newLength;
            for (int i = 0; i < MOST_CELLS; i++) {
                cells[i] = 0;
            }
        }

        boolean has(int i) {
            return i >= 0 && i < length;
        }

        void put(int i, int v) {
            switch (lane) {
                case 0: cells[i] = (byte) v; break;
                case 1: cells[i] = (short) v; break;
                default: cells[i] = v; break;
            }
        }

        /** How many of n CELLS from f on a machine reads ahead of its first FAULT. */
        int readable(int asLane, int f, int n) {
            if (!exists || asLane != lane || !has(f)) {
                return 0;
            }
            return Math.min(n, length - f);
        }

        /** Every FAULT is one of a CELL that was to be read: where all n were, or n is 0, there is none. */
        int machineFault(int asLane, int whole, int n) {
            if (whole >= n) {
                return NO_FAULT;
            }
            if (!exists) {
                return NULL_FAULT;
            }
            return asLane != lane ? CAST_FAULT : INDEX_FAULT;
        }
    }

    /** THE TAPE, and the TOKENS into which its bytes fall; a place that is no TOKEN is kept as one, too. */
    private static final class Tape {
        static final int SIDES = 0, STRENGTH = 1, PLACE = 2, CHOICE = 3, RULE = 4, BALLS = 5, WHEEL = 6,
            ROUND = 7, WORST = 8, DAY = 9, ALIKE = 10, WORDS = 11;
        static final int AT_END = 0, NAME = 1, NUMBER = 2, STOP = 3, NO_TOKEN = 4;

        final int[] token = new int[MOST_BYTES + 1];
        final int[] start = new int[MOST_BYTES + 1];
        final int[] meaning = new int[MOST_BYTES + 1];
        int length;
        private final byte[] bytes = new byte[MOST_BYTES];
        private int next;

        void put(long eight) {
            for (int shift = 56; shift >= 0 && length < MOST_BYTES; shift -= 8) {
                bytes[length] = (byte) (eight >>> shift);
                length++;
            }
        }

        /** The last TOKEN is always the end: each other one has a byte at least. */
        void split() {
            next = 0;
            for (int t = 0; t <= MOST_BYTES; t++) {
                while (next < length && bytes[next] == ' ') {
                    next++;
                }
                start[t] = next;
                meaning[t] = 0;
                token[t] = kindOfNext();
                if (token[t] == AT_END) {
                    return;
                }
                takeNext(t);
            }
        }

        private int kindOfNext() {
            if (next >= length) {
                return AT_END;
            }
            if (isLetter(bytes[next])) {
                return NAME;
            }
            if (isFigure(bytes[next])) {
                return NUMBER;
            }
            return bytes[next] == ';' ? STOP : NO_TOKEN;
        }

        private void takeNext(int t) {
            switch (token[t]) {
                case NAME: takeName(t); break;
                case NUMBER: takeFigures(t); break;
                default: next++; break;
            }
        }

        private static boolean isLetter(byte b) {
            return b >= 'a' && b <= 'z';
        }

        private static boolean isFigure(byte b) {
            return b >= '0' && b <= '9';
        }

        private void takeName(int t) {
            while (next < length && isLetter(bytes[next])) {
                next++;
            }
            token[t] = NO_TOKEN;
            for (int w = 0; w < WORDS; w++) {
                if (isWord(start[t], word(w))) {
                    token[t] = NAME;
                    meaning[t] = w;
                }
            }
        }

        private void takeFigures(int t) {
            int value = 0;
            while (next < length && isFigure(bytes[next])) {
                value = value * 10 + (bytes[next] - '0');
                next++;
            }
            boolean tooLong = next - start[t] > 2;
            token[t] = tooLong ? NO_TOKEN : NUMBER;
            meaning[t] = tooLong ? 0 : value;
        }

        private boolean isWord(int from, String word) {
            if (next - from != word.length()) {
                return false;
            }
            for (int i = 0; i < word.length(); i++) {
                if (bytes[from + i] != word.charAt(i)) {
                    return false;
                }
            }
            return true;
        }

        private static String word(int w) {
            switch (w) {
                case SIDES: return "sides";
                case STRENGTH: return "strength";
                case PLACE: return "place";
                case CHOICE: return "choice";
                case RULE: return "rule";
                case BALLS: return "balls";
                case WHEEL: return "wheel";
                case ROUND: return "round";
                case WORST: return "worst";
                case DAY: return "day";
                default: return "alike";
            }
        }
    }

    /** Reads THE TAPE into a draft of the rules, up to its end or its first FAULT. */
    private static final class Reader {
        final Tape tape = new Tape();
        final Rules draft = new Rules();
        int lines;
        int flaw;
        int flawPlace;
        private final int[] told = new int[Tape.WORDS];
        private int at;

        boolean takeAll() {
            lines = 0;
            flaw = NO_FAULT;
            flawPlace = 0;
            at = 0;
            draft.reset();
            for (int w = 0; w < Tape.WORDS; w++) {
                told[w] = 0;
            }
            tape.split();
            while (lines < MOST_BYTES && tape.token[at] != Tape.AT_END) {
                if (!takeLine()) {
                    return false;
                }
                lines++;
                step();
            }
            return fitsTogether();
        }

        private boolean fitsTogether() {
            boolean noBalls = draft.kind == BY_BALLS && draft.allBalls() == 0;
            boolean twice = draft.kind == BY_WHEEL && draft.wheelHasTwice();
            return noBalls || twice ? fail(6) : true;
        }

        /** At the TOKEN at hand; the end's place is the length. */
        private boolean fail(int what) {
            flaw = what;
            flawPlace = tape.start[at];
            return false;
        }

        /** From a line's NAME to its ; which is the TOKEN at hand then. */
        private boolean takeLine() {
            if (!isDue(Tape.NAME)) {
                return false;
            }
            boolean taken;
            switch (tape.meaning[at]) {
                case Tape.SIDES: taken = takeSides(); break;
                case Tape.RULE: taken = takeRule(); break;
                case Tape.ROUND: taken = takeRound(); break;
                case Tape.STRENGTH: taken = takePair(Tape.STRENGTH, draft.strength, 1, 9); break;
                case Tape.PLACE: taken = takePair(Tape.PLACE, draft.placeWorth, 0, 99); break;
                case Tape.CHOICE: taken = takePair(Tape.CHOICE, draft.choiceWorth, 0, 99); break;
                case Tape.BALLS: taken = takePair(Tape.BALLS, draft.balls, 0, 20); break;
                case Tape.WHEEL: taken = takePair(Tape.WHEEL, draft.wheel, 0, draft.sides - 1); break;
                default: taken = fail(2); break;
            }
            if (!taken) {
                return false;
            }
            step();
            return isDue(Tape.STOP);
        }

        private boolean takeSides() {
            int behind = told[Tape.STRENGTH] | told[Tape.PLACE] | told[Tape.CHOICE]
                | told[Tape.BALLS] | told[Tape.WHEEL] | told[Tape.ROUND];
            if (told[Tape.SIDES] != 0 || behind != 0) {
                return fail(4);
            }
            told[Tape.SIDES] = 1;
            if (!takeNumber(2, MOST_SIDES)) {
                return false;
            }
            draft.sides = tape.meaning[at];
            return true;
        }

        private boolean takeRule() {
            if (told[Tape.RULE] != 0) {
                return fail(4);
            }
            told[Tape.RULE] = 1;
            step();
            if (!isDue(Tape.NAME)) {
                return false;
            }
            switch (tape.meaning[at]) {
                case Tape.WORST: draft.kind = BY_WORST; return true;
                case Tape.BALLS: draft.kind = BY_BALLS; return true;
                case Tape.DAY: draft.kind = BY_DAY; return true;
                case Tape.WHEEL: draft.kind = BY_WHEEL; return true;
                case Tape.ALIKE: draft.kind = BY_ALIKE; return true;
                default: return fail(2);
            }
        }

        private boolean takeRound() {
            if ((draft.rounds + 1) * draft.gamesOfRound() > MOST_GAMES) {
                return fail(5);
            }
            told[Tape.ROUND] = 1;
            draft.rounds++;
            return true;
        }

        /** What is told of such a word is a row of bits, one for each first NUMBER. */
        private boolean takePair(int word, int[] row, int least, int most) {
            if (!takeNumber(0, draft.sides - 1)) {
                return false;
            }
            int which = tape.meaning[at];
            if ((told[word] & (1 << which)) != 0) {
                return fail(4);
            }
            told[word] |= 1 << which;
            if (!takeNumber(least, most)) {
                return false;
            }
            row[which] = tape.meaning[at];
            return true;
        }

        private boolean takeNumber(int least, int most) {
            step();
            if (!isDue(Tape.NUMBER)) {
                return false;
            }
            int value = tape.meaning[at];
            return (value >= least && value <= most) || fail(3);
        }

        /** Never behind the end: that is due nowhere, so no line goes on behind it. */
        private void step() {
            if (at < MOST_BYTES) {
                at++;
            }
        }

        private boolean isDue(int due) {
            if (tape.token[at] == Tape.NO_TOKEN) {
                return fail(1);
            }
            return tape.token[at] == due || fail(2);
        }
    }
}
