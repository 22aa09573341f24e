import java.math.BigInteger;
import java.util.ArrayList;
import java.util.Collections;
import java.util.HashMap;
import java.util.HashSet;
import java.util.List;
import java.util.Map;
import java.util.Set;
import java.util.regex.Matcher;
import java.util.regex.Pattern;

/**
 * The document written down a second time, by other means (fractions, recursion, definitions
 * word for word, the machine's own exceptions), to be held against the class.
 */
final class Oracle {
    static final int BAD = -1, STATE = -2, FULL = -3, NONE = -4;

    /** A fraction in lowest terms. */
    static final class Part implements Comparable<Part> {
        static final Part ZERO = of(0, 1);
        final BigInteger above, below;

        private Part(BigInteger a, BigInteger b) {
            BigInteger g = a.gcd(b);
            above = a.divide(g);
            below = b.divide(g);
        }

        static Part of(long a, long b) {
            return new Part(BigInteger.valueOf(a), BigInteger.valueOf(b));
        }

        Part plus(Part o) {
            return new Part(above.multiply(o.below).add(o.above.multiply(below)), below.multiply(o.below));
        }

        Part times(Part o) {
            return new Part(above.multiply(o.above), below.multiply(o.below));
        }

        @Override public int compareTo(Part o) {
            return above.multiply(o.below).compareTo(o.above.multiply(below));
        }

        long get(int what) {
            return (what == 0 ? above : below).longValueExact();
        }
    }

    static final class Game {
        final int first, second, end;

        Game(int first, int second, int end) {
            this.first = first;
            this.second = second;
            this.end = end;
        }

        boolean of(int side) {
            return first == side || second == side;
        }

        int winner() {
            return end == 0 ? first : end == 1 ? second : NONE;
        }
    }

    private int n = 4;
    private String rule = "worst";
    private Map<String, Integer> told = new HashMap<>();
    private List<Game> games = new ArrayList<>();
    private String tape = "";
    private int fault, torn;
    private final Object[] sheets = new Object[4];

    private int get(String word, int i, int otherwise) {
        return told.getOrDefault(word + i, otherwise);
    }

    private int strength(int s) {
        return get("strength", s, 5);
    }

    private int placeWorth(int p) {
        return get("place", p, 0);
    }

    private int choiceWorth(int c) {
        return get("choice", c, 0);
    }

    private int balls(int i) {
        return get("balls", i, 1);
    }

    private int wheel(int c) {
        return get("wheel", c, c);
    }

    private boolean side(int s) {
        return 0 <= s && s < n;
    }

    private static boolean part(int what) {
        return what == 0 || what == 1;
    }

    // ---- the text

    int feed(long v) {
        if (tape.length() > 232) return FULL;
        StringBuilder b = new StringBuilder(tape);
        for (int i = 7; i >= 0; i--) b.append((char) (v >> (8 * i) & 255));
        tape = b.toString();
        return tape.length();
    }

    int end(int k) {
        if (k < 0 || k > tape.length()) return BAD;
        int had = tape.length();
        tape = tape.substring(0, k);
        return had;
    }

    /** Thrown where the text has a FAULT. */
    private static final class Flaw extends Exception {
        private static final long serialVersionUID = 1L;
        final int what, place;

        Flaw(int what, int place) {
            this.what = what;
            this.place = place;
        }
    }

    private static final Pattern TOKEN = Pattern.compile(" *([a-z]+|[0-9]+|;)");
    private static final Set<String> NAMES = Set.of("sides", "strength", "place", "choice", "rule", "balls",
        "wheel", "round", "worst", "day", "alike");
    private static final List<String> KINDS = List.of("worst", "balls", "day", "wheel", "alike");

    private String text;
    private int at, tokenPlace;

    /** The next TOKEN, or "" at the end. */
    private String token() throws Flaw {
        Matcher m = TOKEN.matcher(text).region(at, text.length());
        if (!m.lookingAt()) {
            int place = at;
            while (place < text.length() && text.charAt(place) == ' ') place++;
            tokenPlace = place;
            if (place == text.length()) return "";
            throw new Flaw(1, place);
        }
        tokenPlace = m.start(1);
        at = m.end();
        String t = m.group(1);
        boolean figures = Character.isDigit(t.charAt(0));
        if (figures && t.length() > 2) throw new Flaw(1, tokenPlace);
        if (!figures && !t.equals(";") && !NAMES.contains(t)) throw new Flaw(1, tokenPlace);
        return t;
    }

    private int number(int low, int high) throws Flaw {
        String t = token();
        if (t.isEmpty() || !Character.isDigit(t.charAt(0))) throw new Flaw(2, tokenPlace);
        int v = Integer.parseInt(t);
        if (v < low || v > high) throw new Flaw(3, tokenPlace);
        return v;
    }

    int text() {
        text = tape;
        tape = "";
        at = 0;
        fault = 0;
        int sides = 4;
        boolean sidesTold = false;
        String kind = null;
        Map<String, Integer> all = new HashMap<>();
        List<Game> made = new ArrayList<>();
        int lines = 0;
        try {
            for (String name = token(); !name.isEmpty(); name = token()) {
                switch (name) {
                    case "sides":
                        if (sidesTold || !all.isEmpty() || !made.isEmpty()) throw new Flaw(4, tokenPlace);
                        sidesTold = true;
                        sides = number(2, 6);
                        break;
                    case "rule":
                        if (kind != null) throw new Flaw(4, tokenPlace);
                        kind = token();
                        if (!KINDS.contains(kind)) throw new Flaw(2, tokenPlace);
                        break;
                    case "round":
                        for (int i = 0; i < sides; i++) {
                            for (int j = i + 1; j < sides; j++) made.add(new Game(i, j, 2));
                        }
                        if (made.size() > 30) throw new Flaw(5, tokenPlace);
                        break;
                    case "strength": case "place": case "choice": case "balls": case "wheel":
                        int i = number(0, sides - 1);
                        if (all.containsKey(name + i)) throw new Flaw(4, tokenPlace);
                        int low = name.equals("strength") ? 1 : 0;
                        int high = name.equals("strength") ? 9 : name.equals("balls") ? 20
                            : name.equals("wheel") ? sides - 1 : 99;
                        all.put(name + i, number(low, high));
                        break;
                    default:
                        throw new Flaw(2, tokenPlace);
                }
                if (!token().equals(";")) throw new Flaw(2, tokenPlace);
                lines++;
            }
            int sum = 0;
            Set<Integer> had = new HashSet<>();
            for (int i = 0; i < sides; i++) {
                sum += all.getOrDefault("balls" + i, 1);
                had.add(all.getOrDefault("wheel" + i, i));
            }
            if ("balls".equals(kind) && sum == 0) throw new Flaw(6, text.length());
            if ("wheel".equals(kind) && had.size() < sides) throw new Flaw(6, text.length());
        } catch (Flaw f) {
            fault = f.what;
            return -10 - f.place;
        }
        n = sides;
        rule = kind == null ? "worst" : kind;
        told = all;
        games = made;
        return lines;
    }

    int fault() {
        return fault;
    }

    int rule(int what) {
        if (what == 0) return n;
        if (what == 1) return KINDS.indexOf(rule);
        for (int i = 0; i < n; i++) {
            if (what == 10 + i) return strength(i);
            if (what == 20 + i) return placeWorth(i);
            if (what == 30 + i) return choiceWorth(i);
            if (what == 40 + i) return balls(i);
            if (what == 50 + i) return wheel(i);
        }
        return BAD;
    }

    // ---- games

    int game(int a, int b) {
        if (!side(a) || !side(b) || a == b) return BAD;
        if (games.size() == 30) return FULL;
        games.add(new Game(a, b, 2));
        return games.size() - 1;
    }

    private static int odds16(int a, int b) {
        return Math.min(15, Math.max(1, 16 * a / (a + b)));
    }

    private static int half(int a) {
        return Math.max(1, a / 2);
    }

    private boolean isGame(int g) {
        return 0 <= g && g < games.size();
    }

    int of(int g, int what) {
        if (!isGame(g) || what < 0 || what > 5) return BAD;
        Game x = games.get(g);
        int a = strength(x.first), b = strength(x.second);
        int[] answers = {x.first, x.second, x.end, odds16(a, b), odds16(half(a), b), odds16(a, half(b))};
        return answers[what];
    }

    int ends(int g, int e) {
        if (!isGame(g) || e < 0 || e > 2) return BAD;
        int was = games.get(g).end;
        games = with(games, g, e);
        return was;
    }

    private static List<Game> with(List<Game> row, int g, int e) {
        List<Game> copy = new ArrayList<>(row);
        copy.set(g, new Game(row.get(g).first, row.get(g).second, e));
        return copy;
    }

    private static int won(List<Game> row, int side) {
        int w = 0;
        for (Game x : row) if (x.winner() == side) w++;
        return w;
    }

    /** SIDES from the first to the last. */
    private List<Integer> table(List<Game> row) {
        List<Integer> sides = new ArrayList<>();
        for (int s = 0; s < n; s++) sides.add(s);
        sides.sort((a, b) -> won(row, a) != won(row, b) ? won(row, b) - won(row, a) : a - b);
        return sides;
    }

    private static List<Integer> openOf(List<Game> row) {
        List<Integer> open = new ArrayList<>();
        for (int g = 0; g < row.size(); g++) if (row.get(g).end == 2) open.add(g);
        return open;
    }

    private int open() {
        return openOf(games).size();
    }

    int table(int place, int what) {
        if (!side(place) || what < 0 || what > 2) return BAD;
        int s = table(games).get(place);
        int left = 0;
        for (Game x : games) if (x.end == 2 && x.of(s)) left++;
        return what == 0 ? s : what == 1 ? won(games, s) : left;
    }

    int may(int s, int place) {
        if (!side(s) || !side(place)) return BAD;
        if (open() > 7) return STATE;
        return can(games, s, place) ? 1 : 0;
    }

    private boolean can(List<Game> row, int s, int place) {
        List<Integer> open = openOf(row);
        if (open.isEmpty()) return table(row).indexOf(s) <= place;
        int g = open.get(0);
        if (row.get(g).first == s) return can(with(row, g, 0), s, place);
        if (row.get(g).second == s) return can(with(row, g, 1), s, place);
        return can(with(row, g, 0), s, place) || can(with(row, g, 1), s, place);
    }

    private int outOf(List<Game> row, int s) {
        for (int g = 0; g < row.size(); g++) {
            List<Game> ahead = row.subList(0, g + 1);
            int mine = won(ahead, s);
            for (int i = 0; i < row.size(); i++) {
                if (row.get(i).of(s) && (i > g || row.get(i).end == 2)) mine++;
            }
            for (int t = 0; t < n; t++) if (t != s && mine < won(ahead, t)) return g;
        }
        return NONE;
    }

    int out(int s) {
        return side(s) ? outOf(games, s) : BAD;
    }

    private int ballsOf(List<Game> row, int s) {
        return balls(n - 1 - table(row).indexOf(s));
    }

    /** The SIDES as they choose (alike: as worst). */
    private List<Integer> order(List<Game> row, int ball) {
        List<Integer> up = table(row);
        Collections.reverse(up);
        switch (rule) {
            case "balls":
                up.remove((Integer) ball);
                up.add(0, ball);
                return up;
            case "wheel":
                List<Integer> as = new ArrayList<>();
                for (int c = 0; c < n; c++) as.add(wheel(c));
                return as;
            case "day":
                List<Integer> day = new ArrayList<>();
                for (int wins = 30; wins >= 0; wins--) {
                    for (int s : up) {
                        int g = outOf(row, s);
                        if (g != NONE && won(row.subList(g + 1, row.size()), s) == wins) day.add(s);
                    }
                }
                for (int s : up) if (outOf(row, s) == NONE) day.add(s);
                return day;
            default:
                return up;
        }
    }

    int chooses(int choice, int b) {
        if (!side(choice)) return BAD;
        if (rule.equals("balls") && (!side(b) || ballsOf(games, b) == 0)) return BAD;
        if (open() > 0) return STATE;
        if (rule.equals("alike")) return NONE;
        return order(games, b).get(choice);
    }

    private Part payOf(List<Game> row, int s) {
        Part all = Part.of(placeWorth(table(row).indexOf(s)), 1);
        switch (rule) {
            case "balls":
                for (int b = 0; b < n; b++) {
                    if (ballsOf(row, b) == 0) continue;
                    int worth = choiceWorth(order(row, b).indexOf(s));
                    all = all.plus(Part.of((long) worth * ballsOf(row, b), count(3)));
                }
                return all;
            case "alike":
                for (int c = 0; c < n; c++) all = all.plus(Part.of(choiceWorth(c), n));
                return all;
            default:
                return all.plus(Part.of(choiceWorth(order(row, 0).indexOf(s)), 1));
        }
    }

    int pay(int s, int what) {
        if (!side(s) || !part(what)) return BAD;
        if (open() > 0) return STATE;
        return (int) payOf(games, s).get(what);
    }

    // ---- worths

    private int oddsOf(Game x) {
        return odds16(strength(x.first), strength(x.second));
    }

    private static Part mix(int of16, Part ifFirst, Part ifSecond) {
        return Part.of(of16, 16).times(ifFirst).plus(Part.of(16 - of16, 16).times(ifSecond));
    }

    private Part worthOf(List<Game> row, int s) {
        List<Integer> open = openOf(row);
        if (open.isEmpty()) return payOf(row, s);
        int g = open.get(open.size() - 1);
        return mix(oddsOf(row.get(g)), worthOf(with(row, g, 0), s), worthOf(with(row, g, 1), s));
    }

    private Part worthWith(List<Game> row, int s, int g, boolean won) {
        return worthOf(with(row, g, (row.get(g).first == s) == won ? 0 : 1), s);
    }

    private boolean wantsToLose(List<Game> row, int s, int g) {
        return worthWith(row, s, g, false).compareTo(worthWith(row, s, g, true)) > 0;
    }

    long worth(int s, int what) {
        if (!side(s) || !part(what)) return BAD;
        return open() > 7 ? STATE : worthOf(games, s).get(what);
    }

    long worthIf(int s, int g, boolean won, int what) {
        if (!side(s) || !isGame(g) || games.get(g).end != 2 || !games.get(g).of(s) || !part(what)) return BAD;
        return open() > 7 ? STATE : worthWith(games, s, g, won).get(what);
    }

    int wants(int g) {
        if (!isGame(g) || games.get(g).end != 2) return BAD;
        if (open() > 7) return STATE;
        Game x = games.get(g);
        return (wantsToLose(games, x.first, g) ? 1 : 0) + (wantsToLose(games, x.second, g) ? 2 : 0);
    }

    int lose(int s, int what) {
        if (what < 0 || what > 2 || (what != 1 && !side(s))) return BAD;
        if (open() > 7) return STATE;
        List<Integer> found = new ArrayList<>();
        for (int g : openOf(games)) {
            Game x = games.get(g);
            boolean it = what == 1 ? wants(g) == 3 : x.of(s) && wantsToLose(games, s, g);
            if (it) found.add(g);
        }
        if (what == 2) return found.size();
        return found.isEmpty() ? NONE : found.get(0);
    }

    private Part oddsAt(List<Game> row, int s, int place) {
        List<Integer> open = openOf(row);
        if (open.isEmpty()) return Part.of(table(row).indexOf(s) == place ? 1 : 0, 1);
        int g = open.get(0);
        return mix(oddsOf(row.get(g)), oddsAt(with(row, g, 0), s, place), oddsAt(with(row, g, 1), s, place));
    }

    long odds(int s, int place, int what) {
        if (!side(s) || !side(place) || !part(what)) return BAD;
        return open() > 7 ? STATE : oddsAt(games, s, place).get(what);
    }

    private int pair;
    private boolean settled;

    /** What all SIDES have by PLAY; pair and settled are those of the first OPEN GAME behind it. */
    private Part[] playFrom(List<Game> row) {
        Part[] worths = new Part[n];
        List<Integer> open = openOf(row);
        if (open.isEmpty()) {
            for (int s = 0; s < n; s++) worths[s] = payOf(row, s);
            return worths;
        }
        int g = open.get(0);
        Game x = row.get(g);
        Part[] a = playFrom(with(row, g, 0)), b = playFrom(with(row, g, 1));
        int f = strength(x.first), h = strength(x.second);
        int[][] of16 = {{odds16(f, h), odds16(f, half(h))}, {odds16(half(f), h), odds16(half(f), half(h))}};
        pair = 0;
        settled = false;
        int[][] pairs = {{0, 0}, {0, 1}, {1, 0}, {1, 1}};
        for (int p = 3; p >= 0; p--) {
            int i = pairs[p][0], j = pairs[p][1];
            boolean firstStays = mix(of16[i][j], a[x.first], b[x.first])
                .compareTo(mix(of16[1 - i][j], a[x.first], b[x.first])) >= 0;
            boolean secondStays = mix(of16[i][j], a[x.second], b[x.second])
                .compareTo(mix(of16[i][1 - j], a[x.second], b[x.second])) >= 0;
            if (firstStays && secondStays) {
                pair = p;
                settled = true;
            }
        }
        for (int s = 0; s < n; s++) worths[s] = mix(of16[pairs[pair][0]][pairs[pair][1]], a[s], b[s]);
        return worths;
    }

    int play(int what) {
        if (what < 0 || what > 2) return BAD;
        if (open() > 5 || open() == 0) return STATE;
        playFrom(games);
        return what == 0 ? pair : what == 1 ? (settled ? 1 : 0) : openOf(games).get(0);
    }

    long played(int s, int what) {
        if (!side(s) || !part(what)) return BAD;
        return open() > 5 ? STATE : playFrom(games)[s].get(what);
    }

    private int often, rows, firstGame;

    private void look(List<Game> row) {
        List<Integer> open = openOf(row);
        if (open.isEmpty()) return;
        rows++;
        int g = open.get(0);
        int now = (wantsToLose(row, row.get(g).first, g) ? 1 : 0) + (wantsToLose(row, row.get(g).second, g) ? 1 : 0);
        often += now;
        if (now > 0 && (firstGame == NONE || g < firstGame)) firstGame = g;
        look(with(row, g, 0));
        look(with(row, g, 1));
    }

    int pays(int what) {
        if (what < 0 || what > 2) return BAD;
        if (open() > 7) return STATE;
        often = 0;
        rows = 0;
        firstGame = NONE;
        look(games);
        return what == 0 ? often : what == 1 ? firstGame : rows;
    }

    // ---- years, thumbs

    private int seed;

    private int draw(int k) {
        seed = seed * 1103515245 + 12345;
        return (int) ((seed & 0xffffffffL) >> 16 & 32767) % k;
    }

    int years(int m, int from, int what) {
        if (m < 1 || m > 40) return BAD;
        if (!(what >= 0 && what <= 4) && !(what >= 10 && what < 10 + n)) return BAD;
        seed = from;
        int[] now = new int[n];
        for (int s = 0; s < n; s++) now[s] = strength(s);
        List<Integer> firsts = new ArrayList<>(), lasts = new ArrayList<>(), gaps = new ArrayList<>();
        for (int y = 0; y < m; y++) {
            List<Game> row = new ArrayList<>();
            for (int i = 0; i < n; i++) {
                for (int j = i + 1; j < n; j++) row.add(new Game(i, j, draw(16) < odds16(now[i], now[j]) ? 0 : 1));
            }
            List<Integer> table = table(row);
            firsts.add(table.get(0));
            lasts.add(table.get(n - 1));
            int ball = 0;
            if (rule.equals("balls")) {
                List<Integer> urn = new ArrayList<>();
                for (int p = n - 1; p >= 0; p--) {
                    for (int k = 0; k < ballsOf(row, table.get(p)); k++) urn.add(table.get(p));
                }
                ball = urn.get(draw(urn.size()));
            }
            List<Integer> order = order(row, ball);
            int low = 9, high = 1;
            for (int s = 0; s < n; s++) {
                now[s] = Math.max(1, Math.min(9, now[s] + choiceWorth(order.indexOf(s)) / 10 - 1));
                low = Math.min(low, now[s]);
                high = Math.max(high, now[s]);
            }
            gaps.add(high - low);
        }
        if (what >= 10) return now[what - 10];
        switch (what) {
            case 0: return firsts.get(m - 1);
            case 1: return new HashSet<>(firsts).size();
            case 2: return gaps.get(m - 1);
            case 3: return Collections.max(gaps);
            default:
                int fewest = NONE;
                for (int y = 0; y < m; y++) {
                    for (int z = y + 1; z < m; z++) {
                        if (lasts.get(y).equals(firsts.get(z)) && (fewest == NONE || z - y < fewest)) fewest = z - y;
                    }
                }
                return fewest;
        }
    }

    private static Part thumb(int m, int r) {
        if (m == 0) return Part.of(r <= 0 ? 1 : 0, 1);
        return Part.of(1, 6).times(thumb(m - 1, r - 1)).plus(Part.of(5, 6).times(thumb(m - 1, r)));
    }

    private static final Map<Integer, Part> THUMBS = new HashMap<>();

    private static Part thumbOnce(int m, int r) {
        Part known = THUMBS.get(m * 100 + r);
        if (known == null) {
            known = m > 12 ? Part.of(1, 6).times(thumbOnce(m - 1, Math.max(0, r - 1)))
                .plus(Part.of(5, 6).times(thumbOnce(m - 1, r))) : thumb(m, r);
            THUMBS.put(m * 100 + r, known);
        }
        return known;
    }

    long thumbs(int m, int r, int what) {
        if (m < 1 || m > 20 || r < 0 || r > m || !part(what)) return BAD;
        return thumbOnce(m, r).get(what);
    }

    int fine(int m, int x) {
        if (m < 1 || m > 20 || x < 2 || x > 1000) return BAD;
        for (int r = 0; r <= m; r++) if (thumbOnce(m, r).compareTo(Part.of(1, x)) <= 0) return r;
        return NONE;
    }

    // ---- sheets

    int sheet(int k, int lane, int m) {
        if (k < 0 || k > 3 || lane < 0 || lane > 2 || m > 40) return BAD;
        try {
            sheets[k] = lane == 0 ? new byte[m] : lane == 1 ? (Object) new short[m] : new int[m];
        } catch (NegativeArraySizeException e) {
            return -14;
        }
        return 1;
    }

    int lay(int k, int i, int v) {
        if (k < 0 || k > 3) return BAD;
        if (sheets[k] == null) return -11;
        try {
            if (sheets[k] instanceof byte[]) ((byte[]) sheets[k])[i] = (byte) v;
            else if (sheets[k] instanceof short[]) ((short[]) sheets[k])[i] = (short) v;
            else ((int[]) sheets[k])[i] = v;
        } catch (ArrayIndexOutOfBoundsException e) {
            return -12;
        }
        return 1;
    }

    int read(int k, int lane, int f, int g, int m) {
        if (k < 0 || k > 3 || lane < 0 || lane > 2 || m < 0 || m > 30) return BAD;
        if (g < 0 || (long) g + m > games.size()) return BAD;
        List<Integer> cells = new ArrayList<>();
        int found = 0;
        try {
            for (int i = 0; i < m; i++) {
                // cast anew at each CELL: without one to read there is nothing that the machine refuses
                int v = lane == 0 ? ((byte[]) sheets[k])[f + i]
                    : lane == 1 ? ((short[]) sheets[k])[f + i] : ((int[]) sheets[k])[f + i];
                if (v < 0 || v > 2) return -20 - i;
                cells.add(v);
            }
        } catch (NullPointerException e) {
            found = 1;
        } catch (ArrayIndexOutOfBoundsException e) {
            found = 2;
        } catch (ClassCastException e) {
            found = 3;
        }
        torn = found;
        int others = 0;
        for (int i = 0; i < cells.size(); i++) if (ends(g + i, cells.get(i)) != cells.get(i)) others++;
        return others;
    }

    int torn() {
        return torn;
    }

    int count(int what) {
        int sum = 0;
        for (int i = 0; i < n; i++) sum += balls(i);
        Object s = sheets[0];
        int cells = s == null ? NONE : java.lang.reflect.Array.getLength(s);
        int[] answers = {n, games.size(), open(), sum, tape.length(), cells};
        return what < 0 || what >= answers.length ? BAD : answers[what];
    }
}
