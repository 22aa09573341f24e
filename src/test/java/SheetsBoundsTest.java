/** Promises 26 to 30: each boundary that the document names of SHEETS, reads, their FAULTS and counts. */
public final class SheetsBoundsTest extends Bench {
    private static final int[] SIZES = {MIN, -41, -1, 0, 1, 2, 39, 40, 41, 100, MAX};

    /** "SHEETS 0 to 3", lanes 0 to 2, "0 to 40 CELLS": BAD: k, lane, n above 40, and only then SIZE. */
    private static void sheetBounds() {
        for (int k = -1; k <= 4; k++) {
            for (int lane = -1; lane <= 3; lane++) {
                LosingLeague x = new LosingLeague();
                for (int n : SIZES) {
                    boolean bad = k < 0 || k > 3 || lane < 0 || lane > 2 || n > 40;
                    due(26, "sheet(" + k + ", " + lane + ", " + n + ")", x.sheet(k, lane, n), bad ? BAD : n < 0 ? -14 : 1);
                    int kept = n <= 0 ? 0 : Math.min(n, 40);
                    boolean none = n < 0;
                    if (k == 0 && lane >= 0 && lane <= 2) {
                        due(26, "CELLS behind it", x.count(5), none ? NONE : kept);
                    } else {
                        due(26, "SHEET 0 has nothing", x.count(5), NONE);
                    }
                }
            }
        }
        LosingLeague x = new LosingLeague();
        int[] far = {MIN, MAX};
        for (int f : far) {
            due(26, "sheet(far, 0, 1)", x.sheet(f, 0, 1), BAD);
            due(26, "sheet(0, far, 1)", x.sheet(0, f, 1), BAD);
            due(27, "lay(far, 0, 1)", x.lay(f, 0, 1), BAD);
        }
        due(26, "still nothing", x.count(5), NONE);
    }

    /** "or nothing (at first)", and what was refused changes nothing. */
    private static void nothingAtFirst() {
        for (int k = 0; k < 4; k++) {
            LosingLeague x = told("sides 2;round;");
            due(27, "NULL", x.lay(k, 0, 0), -11);
            due(27, "NULL ahead of INDEX", x.lay(k, -1, 0), -11);
            due(27, "NULL ahead of INDEX", x.lay(k, MAX, 0), -11);
            x.sheet(k, 0, -1);
            x.sheet(k, 0, 41);
            x.sheet(k, 3, 1);
            due(27, "still nothing", x.lay(k, 0, 0), -11);
            due(26, "none of them", x.sheet(k, 1, 0), 1);
            due(27, "a row of none has no CELL 0", x.lay(k, 0, 0), -12);
            due(26, "one", x.sheet(k, 1, 1), 1);
            due(27, "CELL 0", x.lay(k, 0, 1), 1);
            x.sheet(k, 2, -1);
            x.sheet(k, 2, 41);
            due(28, "the row stays behind a SIZE", x.read(k, 1, 0, 0, 1), 1);
            due(28, "the row stays behind a SIZE", x.of(0, 2), 1);
            for (int other = 0; other < 4; other++) {
                due(27, "the other SHEETS", x.lay(other, 0, 1), other == k ? 1 : -11);
            }
        }
    }

    /** "a new row of CELLS 0", in each lane, in place of the one before. */
    private static void newRows() {
        int[] sizes = {1, 2, 30, 40};
        for (int lane = 0; lane < 3; lane++) {
            for (int n : sizes) {
                LosingLeague x = told("sides 2;" + "round;".repeat(30));
                x.sheet(1, (lane + 1) % 3, 40);
                for (int i = 0; i < 40; i++) {
                    x.lay(1, i, 1);
                }
                x.sheet(1, lane, n);
                int read = Math.min(n, 30);
                due(26, "CELLS are 0", x.read(1, lane, n - read, 0, read), read);
                for (int g = 0; g < 30; g++) {
                    due(26, "CELLS are 0", x.of(g, 2), g < read ? 0 : 2);
                }
                due(29, "no FAULT", x.torn(), 0);
            }
        }
    }

    /** "CELL i of a SHEET": 0 to as many as it has, less one. */
    private static void layBounds() {
        int[] sizes = {0, 1, 2, 39, 40};
        for (int lane = 0; lane < 3; lane++) {
            for (int n : sizes) {
                LosingLeague x = new LosingLeague();
                x.sheet(3, lane, n);
                int[] at = {MIN, -1, 0, n - 1, n, n + 1, 40, 255, 256, 65536, MAX};
                for (int i : at) {
                    due(27, "lay(3, " + i + ", 1) of " + n, x.lay(3, i, 1), i >= 0 && i < n ? 1 : -12);
                }
                due(27, "lay(4, 0, 1)", x.lay(4, 0, 1), BAD);
                due(27, "lay(-1, 0, 1)", x.lay(-1, 0, 1), BAD);
                due(27, "lay(4, -1, 1)", x.lay(4, -1, 1), BAD);
            }
        }
    }

    /** "becomes v (its lowest bits)": 8, 16 or 32 of them; "CELL f + i is not 0 to 2". */
    private static void lowestBits() {
        int[] bits = {8, 16, 32};
        int[] near = {-1, 0, 1, 2, 3};
        int[] tops = {0, 1 << 7, 1 << 8, 3 << 8, 1 << 15, 1 << 16, 5 << 16, 1 << 24, 1 << 30, MIN, -256, -65536};
        for (int lane = 0; lane < 3; lane++) {
            for (int top : tops) {
                LosingLeague x = told("sides 2;round;");
                x.sheet(0, lane, 1);
                for (int low : near) {
                    int v = top + low;
                    long kept = Math.floorMod((long) v, 1L << bits[lane]);
                    x.ends(0, kept == 0 ? 1 : 0);
                    String what = "lay(0, 0, " + v + ") of lane " + lane;
                    due(27, what, x.lay(0, 0, v), 1);
                    due(28, what + ", read", x.read(0, lane, 0, 0, 1), kept <= 2 ? 1 : -20);
                    due(28, what + ", END", x.of(0, 2), kept <= 2 ? kept : 0);
                }
            }
        }
    }

    /** "n (0 to 30)", "BAD: k, lane, g and n above the GAMES there are". */
    private static void readBounds() {
        int[] sizes = {0, 1, 3, 29, 30};
        for (int size : sizes) {
            for (int g = -1; g <= size + 1; g++) {
                LosingLeague x = told("sides 2;" + "round;".repeat(size));
                x.sheet(0, 2, 40);
                for (int n = -1; n <= 32; n++) {
                    boolean bad = g < 0 || n < 0 || n > 30 || g + n > size;
                    int got = x.read(0, 2, 0, g, n);
                    due(28, "read(0, 2, 0, " + g + ", " + n + ") of " + size, got < 0 ? BAD : 0, bad ? BAD : 0);
                }
            }
            LosingLeague x = told("sides 2;" + "round;".repeat(size));
            x.sheet(0, 0, 40);
            int[] far = {MIN, MAX, MAX - 1, MIN + 1};
            for (int f : far) {
                due(28, "n far", x.read(0, 0, 0, 0, f), BAD);
                due(28, "g far", x.read(0, 0, 0, f, 0), BAD);
                due(28, "g far", x.read(0, 0, 0, f, 1), BAD);
                due(28, "g and n far", x.read(0, 0, 0, f, f), BAD);
                due(28, "k far", x.read(f, 0, 0, 0, 0), BAD);
                due(28, "lane far", x.read(0, f, 0, 0, 0), BAD);
            }
            for (int k = -1; k <= 4; k++) {
                for (int lane = -1; lane <= 3; lane++) {
                    boolean bad = k < 0 || k > 3 || lane < 0 || lane > 2;
                    due(28, "read(" + k + ", " + lane + ", 0, 0, 0)", x.read(k, lane, 0, 0, 0), bad ? BAD : 0);
                }
            }
            due(28, "all that there are", x.read(0, 0, 0, 0, size), size);
            due(28, "one too many", x.read(0, 0, 0, 0, size + 1), BAD);
            due(28, "none behind the last", x.read(0, 0, 0, size, 0), 0);
            due(28, "none behind that", x.read(0, 0, 0, size + 1, 0), BAD);
        }
    }

    /** Of each SHEET as of each lane, from each CELL on: those ahead of a FAULT become so. */
    private static void readAcrossTheEnd() {
        int[] sizes = {-1, 0, 1, 3, 40};
        int[] from = {MIN, -2, -1, 0, 1, 2, 3, 37, 38, 39, 40, MAX - 1, MAX};
        for (int lane = 0; lane < 3; lane++) {
            for (int as = 0; as < 3; as++) {
                for (int size : sizes) {
                    for (int f : from) {
                        for (int n = 0; n <= 4; n++) {
                            across(lane, as, size, f, n);
                        }
                    }
                }
            }
        }
    }

    private static void across(int lane, int as, int size, int f, int n) {
        LosingLeague x = told("sides 2;round;round;round;round;");
        if (size >= 0) {
            x.sheet(2, lane, size);
        }
        int read = 0;
        int fault = 0;
        for (int i = 0; i < n && fault == 0; i++) {
            long cell = (long) f + i;
            fault = size < 0 ? 1 : as != lane ? 3 : cell < 0 || cell >= size ? 2 : 0;
            read += fault == 0 ? 1 : 0;
        }
        String what = "read(2, " + as + ", " + f + ", 0, " + n + ") of lane " + lane + " and " + size;
        due(28, what, x.read(2, as, f, 0, n), read);
        due(29, "torn() behind " + what, x.torn(), fault);
        due(28, "OPEN ones behind " + what, x.count(2), 4 - read);
        for (int g = 0; g < 4; g++) {
            due(28, "GAME " + g + " behind " + what, x.of(g, 2), g < read ? 0 : 2);
        }
    }

    /** "-20 less i: CELL f + i is not 0 to 2: then none did; the first met". */
    private static void cellsThatAreNone() {
        int[] values = {3, -1, MAX, MIN, 4};
        for (int i = 0; i < 30; i++) {
            LosingLeague x = told("sides 2;" + "round;".repeat(30));
            x.sheet(0, 2, 40);
            x.lay(0, 5 + i, values[i % 5]);
            due(28, "CELL f + " + i, x.read(0, 2, 5, 0, 30), -20 - i);
            due(28, "then none did", x.count(2), 30);
            due(28, "all ahead of it", x.read(0, 2, 5, 0, i), i);
            due(28, "all ahead of it", x.count(2), 30 - i);
            due(28, "with it", x.read(0, 2, 5, 0, i + 1), -20 - i);
            due(28, "from it on", x.read(0, 2, 5 + i, 0, 1), -20);
            due(28, "behind it", x.read(0, 2, 6 + i, i, 30 - i), 30 - i);
            due(28, "two of them: the first", x.lay(0, 5, 3), 1);
            due(28, "two of them: the first", x.read(0, 2, 5, 0, 30), -20);
        }
        LosingLeague x = told("sides 3;round;");
        x.sheet(0, 0, 2);
        x.lay(0, 1, 3);
        due(28, "ahead of the INDEX", x.read(0, 0, 0, 0, 3), -21);
        due(28, "none did", x.count(2), 3);
        due(28, "a CAST ahead of it", x.read(0, 1, 1, 0, 1), 0);
        due(29, "a CAST ahead of it", x.torn(), 3);
        due(28, "an INDEX ahead of it", x.read(0, 0, -1, 0, 3), 0);
        due(29, "an INDEX ahead of it", x.torn(), 2);
        due(28, "no CELL of it is read", x.read(0, 0, 1, 0, 0), 0);
        due(29, "no CELL of it is read", x.torn(), 0);
        due(28, "BAD ahead of it", x.read(0, 0, 1, 3, 1), BAD);
    }

    /** "how many became others": ENDS that are so already do not count; 2 opens them again. */
    private static void becameOthers() {
        for (int was = 0; was <= 2; was++) {
            for (int e = 0; e <= 2; e++) {
                LosingLeague x = told("sides 2;round;round;round;");
                endAll(x, was, was, was);
                x.sheet(0, 1, 1);
                x.lay(0, 0, e);
                due(28, "from " + was + " to " + e, x.read(0, 1, 0, 1, 1), was == e ? 0 : 1);
                due(28, "from " + was + " to " + e, x.of(1, 2), e);
                due(28, "the one ahead stays", x.of(0, 2), was);
                due(28, "the one behind stays", x.of(2, 2), was);
                due(28, "again", x.read(0, 1, 0, 1, 1), 0);
                due(28, "across the end", x.read(0, 1, 0, 0, 2), was == e ? 0 : 1);
                due(29, "across the end", x.torn(), 2);
            }
        }
    }

    /** "The FAULT of the latest read() that came to an end; 0." */
    private static void latestTorn() {
        LosingLeague x = told("sides 3;round;");
        due(29, "ahead of any read", x.torn(), 0);
        x.read(0, 0, 0, 0, 4);
        due(29, "a BAD read alone", x.torn(), 0);
        x.sheet(1, 1, 2);
        x.lay(1, 0, 9);
        int[][] reads = {{0, 0, 0, 0, 1, 1}, {1, 0, 0, 0, 1, 3}, {1, 1, 1, 0, 2, 2}, {1, 1, 1, 0, 1, 0}};
        for (int round = 0; round < 2; round++) {
            for (int[] r : reads) {
                x.read(r[0], r[1], r[2], r[3], r[4]);
                due(29, "a FAULT of " + r[5], x.torn(), r[5]);
                due(28, "no CELL of an END", x.read(1, 1, 0, 0, 1), -20);
                due(29, "behind -20", x.torn(), r[5]);
                due(28, "BAD", x.read(1, 1, 0, 0, 4), BAD);
                due(29, "behind BAD", x.torn(), r[5]);
                x.lay(3, 0, 0);
                x.sheet(3, 0, -1);
                x.lay(1, 2, 0);
                due(29, "behind FAULTS of others", x.torn(), r[5]);
                x.feed(-1L);
                x.text();
                due(29, "behind a text's", x.torn(), r[5]);
            }
        }
    }

    /** Each what, from what is least to what is most. */
    private static void counts() {
        LosingLeague x = new LosingLeague();
        int[] bad = {MIN, -1, 6, 7, MAX};
        for (int what : bad) {
            due(30, "count(" + what + ")", x.count(what), BAD);
        }
        for (int n = 2; n <= 6; n++) {
            String none = "sides " + n + ";", most = none;
            for (int i = 0; i < n; i++) {
                none += "balls " + i + " 0;";
                most += "balls " + i + " 20;";
            }
            due(30, "SIDES", told(none).count(0), n);
            due(30, "one ball each", told("sides " + n + ";").count(3), n);
            due(30, "no balls", told(none).count(3), 0);
            due(30, "the most balls", told(most).count(3), 20 * n);
        }
        for (int g = 0; g <= 30; g++) {
            due(30, "GAMES", x.count(1), g);
            due(30, "OPEN ones", x.count(2), g);
            x.game(0, 3);
        }
        for (int g = 0; g < 30; g++) {
            due(30, "OPEN ones", x.count(2), 30 - g);
            x.ends(g, g % 2);
        }
        due(30, "OPEN ones", x.count(2), 0);
        due(30, "GAMES", x.count(1), 30);
        for (int b = 0; b <= 240; b += 8) {
            due(30, "bytes", x.count(4), b);
            x.feed(0);
        }
        due(30, "bytes", x.count(4), 240);
        due(30, "nothing", x.count(5), NONE);
        x.sheet(1, 0, 9);
        due(30, "SHEET 1 is not asked for", x.count(5), NONE);
        for (int n = 0; n <= 40; n++) {
            x.sheet(0, n % 3, n);
            due(30, "CELLS", x.count(5), n);
        }
    }

    public static void main(String[] args) {
        sheetBounds();
        nothingAtFirst();
        newRows();
        layBounds();
        lowestBits();
        readBounds();
        readAcrossTheEnd();
        cellsThatAreNone();
        becameOthers();
        latestTorn();
        counts();
        finish();
    }
}
