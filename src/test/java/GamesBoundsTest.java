/** Promises 7 to 14: each boundary that the document names of GAMES, the TABLE, OUT, CHOOSING and PAY. */
public final class GamesBoundsTest extends Bench {

    private static void expect(int promise, String what, int[] got, int... want) {
        same(promise, what, java.util.Arrays.toString(got), java.util.Arrays.toString(want));
    }

    private static int[] tableOf(LosingLeague x) {
        int[] sides = new int[x.count(0)];
        for (int p = 0; p < sides.length; p++) {
            sides[p] = x.table(p, 0);
        }
        return sides;
    }

    private static int[] outs(LosingLeague x) {
        int[] all = new int[x.count(0)];
        for (int s = 0; s < all.length; s++) {
            all[s] = x.out(s);
        }
        return all;
    }

    private static int[] choosers(LosingLeague x, int b) {
        int[] all = new int[x.count(0)];
        for (int c = 0; c < all.length; c++) {
            all[c] = x.chooses(c, b);
        }
        return all;
    }

    private static void payIs(LosingLeague x, int side, int above, int below) {
        due(14, "pay(" + side + ", 0)", x.pay(side, 0), above);
        due(14, "pay(" + side + ", 1)", x.pay(side, 1), below);
    }

    /** SIDES "numbered from 0 on": -1 and n are none; "BAD: also of one and the same". */
    private static void sidesOfGames() {
        for (int n = 2; n <= 6; n++) {
            LosingLeague x = told("sides " + n + ";");
            int size = 0;
            for (int one = -1; one <= n; one++) {
                for (int other = -1; other <= n; other++) {
                    boolean fine = one >= 0 && one < n && other >= 0 && other < n && one != other;
                    if (fine && size == 30) {
                        due(7, "game(" + one + ", " + other + ")", x.game(one, other), FULL);
                    } else {
                        due(7, "game(" + one + ", " + other + ")", x.game(one, other), fine ? size : BAD);
                        size += fine ? 1 : 0;
                    }
                }
            }
            due(7, "GAMES", x.count(1), n * (n - 1));
        }
        LosingLeague x = new LosingLeague();
        int[] far = {MIN, MAX};
        for (int side : far) {
            due(7, "game(far, 0)", x.game(side, 0), BAD);
            due(7, "game(0, far)", x.game(0, side), BAD);
            due(7, "game(far, far)", x.game(side, side), BAD);
        }
        due(7, "none was made", x.count(1), 0);
    }

    /** "GAMES (30)": the last fits, one more is FULL, what is wrong is BAD ahead of it. */
    private static void thirtyGames() {
        LosingLeague x = new LosingLeague();
        for (int g = 0; g < 30; g++) {
            due(7, "GAME " + g, x.game(g % 2, 3 - g % 2), g);
            due(7, "OPEN", x.of(g, 2), 2);
        }
        due(7, "one more", x.game(0, 1), FULL);
        due(7, "one more, wrong", x.game(0, 0), BAD);
        due(7, "one more, wrong", x.game(4, 0), BAD);
        due(7, "GAMES", x.count(1), 30);
        due(8, "the last one", x.of(29, 0), 1);
        due(8, "the last one", x.of(29, 1), 2);
        due(9, "the last one", x.ends(29, 1), 2);
        due(8, "one behind the last", x.of(30, 0), BAD);
        due(9, "one behind the last", x.ends(30, 0), BAD);
        due(4, "a text takes them away", tell(x, ""), 0);
        due(7, "GAME 0 again", x.game(0, 1), 0);
    }

    /** "BAD": no such GAME, no such what. */
    private static void ofBounds() {
        LosingLeague x = told("sides 3;round;");
        for (int g = -1; g <= 3; g++) {
            for (int what = -1; what <= 6; what++) {
                boolean fine = g >= 0 && g < 3 && what >= 0 && what <= 5;
                due(8, "of(" + g + ", " + what + ") is BAD", x.of(g, what) == BAD ? 1 : 0, fine ? 0 : 1);
            }
        }
        int[] far = {MIN, MAX, 30};
        for (int g : far) {
            due(8, "of(" + g + ", 0)", x.of(g, 0), BAD);
            due(8, "of(0, " + g + ")", x.of(0, g), BAD);
            due(9, "ends(" + g + ", 0)", x.ends(g, 0), BAD);
            due(9, "ends(0, " + g + ")", x.ends(0, g), BAD);
        }
    }

    /** "divided down, 1 at least and 15 at most; .. half its STRENGTH, divided down, 1 at least": all STRENGTHS. */
    private static void oddsOfAll() {
        for (int one = 1; one <= 9; one++) {
            for (int other = 1; other <= 9; other++) {
                LosingLeague x = told("sides 2;strength 0 " + one + ";strength 1 " + other + ";round;");
                int restedOne = one == 1 ? 1 : one >> 1, restedOther = other == 1 ? 1 : other >> 1;
                due(8, "ODDS of " + one + " and " + other, x.of(0, 3), sixteenths(one, other));
                due(8, "the first RESTS", x.of(0, 4), sixteenths(restedOne, other));
                due(8, "the second RESTS", x.of(0, 5), sixteenths(one, restedOther));
            }
        }
        LosingLeague least = told("sides 2;strength 0 1;strength 1 9;round;");
        due(8, "the least ODDS", least.of(0, 3), 1);
        due(8, "1 RESTS and stays 1", least.of(0, 4), 1);
        due(8, "9 RESTS and is 4", least.of(0, 5), 3);
        LosingLeague most = told("sides 2;strength 0 9;strength 1 1;round;");
        due(8, "the most ODDS", most.of(0, 3), 14);
        due(8, "9 RESTS and is 4", most.of(0, 4), 12);
        due(8, "1 RESTS and stays 1", most.of(0, 5), 14);
    }

    /** By counting how often both fit in, so that it is no second writing of the class's line. */
    private static int sixteenths(int one, int other) {
        int of16 = 0;
        for (int left = 16 * one; left >= one + other; left -= one + other) {
            of16++;
        }
        return of16 < 1 ? 1 : of16 > 15 ? 15 : of16;
    }

    /** ENDS 0, 1, 2; "what it was". */
    private static void endsBounds() {
        LosingLeague x = told("sides 2;round;");
        int was = 2;
        int[] asked = {0, 3, 1, -1, 2, 2, MAX, 1, 1, MIN, 0, 0, 2};
        for (int e : asked) {
            boolean fine = e >= 0 && e <= 2;
            due(9, "ends(0, " + e + ")", x.ends(0, e), fine ? was : BAD);
            was = fine ? e : was;
            due(9, "END behind ends(0, " + e + ")", x.of(0, 2), was);
            due(9, "OPEN ones behind it", x.count(2), was == 2 ? 1 : 0);
        }
        due(9, "ends(-1, 0)", x.ends(-1, 0), BAD);
        due(9, "ends(1, 0)", x.ends(1, 0), BAD);
    }

    /** "the most first, of several as many the one with the lesser number first". */
    private static void tableOrder() {
        for (int n = 2; n <= 6; n++) {
            LosingLeague x = told("sides " + n + ";");
            for (int p = 0; p < n; p++) {
                due(10, "without GAMES: PLACE " + p, x.table(p, 0), p);
                due(10, "without GAMES: won", x.table(p, 1), 0);
                due(10, "without GAMES: OPEN", x.table(p, 2), 0);
            }
            x.game(n - 1, 0);
            x.ends(0, 0);
            due(10, "the greatest number won one", x.table(0, 0), n - 1);
            due(10, "the greatest number won one", x.table(1, 0), 0);
            due(10, "won", x.table(0, 1), 1);
            x.game(0, n - 1);
            x.ends(1, 0);
            due(10, "as many: the lesser number", x.table(0, 0), 0);
            for (int p = -1; p <= n; p++) {
                for (int what = -1; what <= 3; what++) {
                    boolean fine = p >= 0 && p < n && what >= 0 && what <= 2;
                    due(10, "table(" + p + ", " + what + ") is BAD", x.table(p, what) == BAD ? 1 : 0, fine ? 0 : 1);
                }
            }
            due(10, "table(MIN, 0)", x.table(MIN, 0), BAD);
            due(10, "table(MAX, 0)", x.table(MAX, 0), BAD);
            due(10, "table(0, MIN)", x.table(0, MIN), BAD);
            due(10, "table(0, MAX)", x.table(0, MAX), BAD);
        }
        LosingLeague x = told("sides 6;round;");
        // 5 wins all its five, 4 all but that, and so on
        endAll(x, 1, 1, 1, 1, 1, 1, 1, 1, 1, 1, 1, 1, 1, 1, 1);
        expect(10, "all turned", tableOf(x), 5, 4, 3, 2, 1, 0);
        x.ends(14, 2);
        // 4 and 5 have four each now
        expect(10, "an OPEN one is won by nobody", tableOf(x), 4, 5, 3, 2, 1, 0);
        due(10, "won", x.table(0, 1), 4);
        due(10, "OPEN ones of the first", x.table(0, 2), 1);
        due(10, "OPEN ones of the second", x.table(1, 2), 1);
        due(10, "OPEN ones of the third", x.table(2, 2), 0);
        LosingLeague thirty = told("sides 2;" + "round;".repeat(30));
        due(10, "thirty OPEN ones", thirty.table(1, 2), 30);
        for (int g = 0; g < 30; g++) {
            thirty.ends(g, 1);
        }
        due(10, "thirty won", thirty.table(0, 1), 30);
        due(10, "thirty won", thirty.table(0, 0), 1);
        due(10, "none won", thirty.table(1, 1), 0);
    }

    /** "can still be at a PLACE or above": as many wins are enough for the lesser number alone. */
    private static void mayByNumbers() {
        LosingLeague x = told("sides 2;round;round;");
        x.ends(0, 0);
        due(11, "1 can have as many as 0", x.may(1, 0), 0);
        due(11, "the last PLACE is always there", x.may(1, 1), 1);
        due(11, "0 wins its own", x.may(0, 0), 1);
        x.ends(0, 1);
        due(11, "0 can have as many as 1", x.may(0, 0), 1);
        due(11, "1 wins its own", x.may(1, 0), 1);
        x.ends(1, 1);
        due(11, "nothing is OPEN, 0 has none", x.may(0, 0), 0);
        due(11, "nothing is OPEN, 1 has two", x.may(1, 0), 1);
        LosingLeague y = told("sides 3;round;round;");
        endAll(y, 2, 1, 1, 2);
        // 2 has two, 0 and 1 none, and both still play each other twice and 2 once
        due(11, "0 wins three", y.may(0, 0), 1);
        due(11, "1 wins three", y.may(1, 0), 1);
        y.ends(4, 1);
        y.ends(5, 1);
        // 2 has four; two GAMES of 0 and 1 are left
        due(11, "0 with two is not first", y.may(0, 0), 0);
        due(11, "0 with two is second", y.may(0, 1), 1);
        due(11, "1 with two is second", y.may(1, 1), 1);
        due(11, "2 is first", y.may(2, 0), 1);
        // others must lie best: 3 has one and none OPEN; 1 and 2 play each other, one of them is above it
        LosingLeague z = told("sides 4;");
        games(z, 3, 0, 1, 0, 1, 2);
        endAll(z, 0, 1, 2);
        // 3 and 0 have one; if 2 wins: 0, 2, 3 have one; if 1 wins: 0, 1, 3 have one
        due(11, "3 behind 0 and one of 1 and 2", z.may(3, 2), 1);
        due(11, "3 is not second", z.may(3, 1), 0);
        due(11, "3 is not first", z.may(3, 0), 0);
    }

    /** "STATE: more than 7 GAMES are OPEN", behind BAD. */
    private static void mayState() {
        for (int open = 0; open <= 30; open++) {
            LosingLeague x = told("sides 2;" + "round;".repeat(30));
            for (int g = open; g < 30; g++) {
                x.ends(g, 0);
            }
            due(11, "may(0, 0) with " + open, x.may(0, 0), open > 7 ? STATE : 1);
            due(11, "may(1, 1) with " + open, x.may(1, 1), open > 7 ? STATE : 1);
            due(11, "may(1, 0) with " + open, x.may(1, 0), open > 7 ? STATE : 0);
            int[] bad = {-1, 2, MIN, MAX};
            for (int b : bad) {
                due(11, "may(" + b + ", 0) with " + open, x.may(b, 0), BAD);
                due(11, "may(0, " + b + ") with " + open, x.may(0, b), BAD);
            }
        }
        for (int n = 2; n <= 6; n++) {
            LosingLeague x = told("sides " + n + ";");
            for (int s = -1; s <= n; s++) {
                for (int p = -1; p <= n; p++) {
                    boolean fine = s >= 0 && s < n && p >= 0 && p < n;
                    due(11, "may(" + s + ", " + p + ") of " + n, x.may(s, p), !fine ? BAD : s <= p ? 1 : 0);
                }
            }
        }
    }

    /** "are fewer than another SIDE's games won up to it": as many is not yet OUT. */
    private static void outWhenFewer() {
        LosingLeague x = told("sides 2;round;round;round;");
        endAll(x, 0, 0, 0);
        expect(12, "behind GAME 1: one to come, two won", outs(x), NONE, 1);
        x.ends(0, 1);
        // behind GAME 1: 1 won one, one to come; 0 won one; behind GAME 2: 0 won two, 1 one
        expect(12, "OUT with the last GAME alone", outs(x), NONE, 2);
        LosingLeague y = told("sides 2;round;round;");
        endAll(y, 0, 1);
        expect(12, "as many is not OUT", outs(y), NONE, NONE);
        y.ends(1, 0);
        expect(12, "fewer is", outs(y), NONE, 1);
        LosingLeague z = told("sides 3;");
        expect(12, "without GAMES", outs(z), NONE, NONE, NONE);
        games(z, 0, 1, 0, 1);
        expect(12, "all OPEN", outs(z), NONE, NONE, NONE);
        z.ends(0, 1);
        // 2 has no GAMES at all, 0 can still have as many as 1
        expect(12, "without GAMES of its own", outs(z), NONE, NONE, 0);
        z.game(2, 0);
        expect(12, "with one to come", outs(z), NONE, NONE, NONE);
        z.ends(1, 1);
        expect(12, "one to come against two", outs(z), 1, NONE, 1);
        z.game(0, 2);
        expect(12, "two to come against two", outs(z), NONE, NONE, NONE);
    }

    /** "(OPEN ones: won by nobody yet, still to come)". */
    private static void outWithOpenOnes() {
        LosingLeague x = told("sides 2;round;round;round;");
        endAll(x, 2, 0, 2);
        expect(12, "two OPEN, one lost", outs(x), NONE, NONE);
        x.ends(2, 0);
        expect(12, "the first one OPEN, two lost", outs(x), NONE, 2);
        endAll(x, 0, 2, 0);
        expect(12, "the one between OPEN, two lost", outs(x), NONE, 2);
        endAll(x, 0, 0, 2);
        expect(12, "the last one OPEN, two lost", outs(x), NONE, 1);
        endAll(x, 1, 1, 2);
        expect(12, "0 can be OUT, too", outs(x), 1, NONE);
        endAll(x, 2, 2, 2);
        expect(12, "all OPEN", outs(x), NONE, NONE);
        LosingLeague thirty = told("sides 2;" + "round;".repeat(30));
        for (int g = 0; g < 30; g++) {
            thirty.ends(g, 0);
        }
        due(12, "sixteen won against fourteen to come", thirty.out(1), 15);
        for (int g = 0; g < 30; g += 2) {
            thirty.ends(g, 1);
        }
        expect(12, "fifteen each", outs(thirty), NONE, NONE);
        thirty.ends(28, 0);
        expect(12, "OUT behind the last GAME but one or the last", outs(thirty), NONE, 29);
    }

    private static void outBounds() {
        for (int n = 2; n <= 6; n++) {
            LosingLeague x = told("sides " + n + ";");
            int[] bad = {-1, n, MIN, MAX};
            for (int b : bad) {
                due(12, "out(" + b + ") of " + n, x.out(b), BAD);
            }
            due(12, "out(0)", x.out(0), NONE);
            due(12, "out(" + (n - 1) + ")", x.out(n - 1), NONE);
        }
    }

    /** "BAD: also a SIDE without balls; STATE: a GAME is OPEN; NONE: by alike", the first that fits. */
    private static void choosesBounds() {
        int[] far = {MIN, -1, 3, MAX};
        for (String kind : KINDS) {
            LosingLeague x = told("sides 3;rule " + kind + ";round;");
            boolean balls = kind.equals("balls"), alike = kind.equals("alike");
            for (int open = 3; open >= 0; open--) {
                if (open < 3) {
                    x.ends(open, 0);
                }
                for (int f : far) {
                    due(13, kind + ": chooses(" + f + ", 0)", x.chooses(f, 0), BAD);
                    int other = open > 0 ? STATE : alike ? NONE : x.chooses(0, 0);
                    due(13, kind + ": chooses(0, " + f + ")", x.chooses(0, f), balls ? BAD : other);
                }
                int first = x.chooses(0, 0), last = x.chooses(2, 2);
                if (open > 0) {
                    due(13, kind + ": a GAME is OPEN", first, STATE);
                    due(13, kind + ": a GAME is OPEN", last, STATE);
                } else {
                    due(13, kind + ": none is OPEN", first < 0 ? 1 : 0, alike ? 1 : 0);
                    due(13, kind + ": none is OPEN", last < 0 ? 1 : 0, alike ? 1 : 0);
                }
            }
        }
    }

    /** "worst: the last of the TABLE has choice 0, and so on"; "wheel: as told"; "alike". */
    private static void choosingPlainly() {
        for (int n = 2; n <= 6; n++) {
            LosingLeague worst = told("sides " + n + ";");
            LosingLeague wheel = told("sides " + n + ";rule wheel;");
            LosingLeague turned = told("sides " + n + ";rule wheel;wheel 0 1;wheel 1 0;");
            LosingLeague alike = told("sides " + n + ";rule alike;choice " + (n - 1) + " 99;");
            for (int c = 0; c < n; c++) {
                due(13, "worst, none won", worst.chooses(c, -9), n - 1 - c);
                due(13, "wheel as it is at first", wheel.chooses(c, 9), c);
                due(13, "wheel as told", turned.chooses(c, 9), c < 2 ? 1 - c : c);
                due(13, "alike", alike.chooses(c, 0), NONE);
                int common = n == 2 ? 1 : n == 4 ? 1 : n == 5 ? 1 : 3;
                payIs(alike, c, 99 / common, n / common);
            }
        }
    }

    /** "balls: .. its SIDE has choice 0, the others the rest, the last one first". */
    private static void choosingByBalls() {
        LosingLeague x = told("sides 4;rule balls;choice 0 90;choice 1 40;choice 2 20;choice 3 10;"
            + "balls 0 20;balls 1 0;balls 2 1;balls 3 0;");
        // the TABLE is 0, 1, 2, 3: SIDE 3 has 20 balls, 2 none, 1 one, 0 none
        expect(13, "of the last", choosers(x, 3), 3, 2, 1, 0);
        expect(13, "of one without balls", choosers(x, 2), BAD, BAD, BAD, BAD);
        expect(13, "of one between", choosers(x, 1), 1, 3, 2, 0);
        expect(13, "of the first, without balls", choosers(x, 0), BAD, BAD, BAD, BAD);
        payIs(x, 0, 10, 1);
        payIs(x, 1, (20 * 20 + 90) / 7, 21 / 7);
        payIs(x, 2, 20 * 40 + 20, 21);
        payIs(x, 3, 20 * 90 + 40, 21);
        // balls are of a place from the last one, not of a SIDE
        x.game(3, 0);
        x.ends(0, 0);
        expect(13, "3 is the first now and has none", choosers(x, 3), BAD, BAD, BAD, BAD);
        expect(13, "2 is the last now", choosers(x, 2), 2, 1, 0, 3);
        expect(13, "0 is the second now and has one", choosers(x, 0), 0, 2, 1, 3);
        expect(13, "1 is the third now", choosers(x, 1), BAD, BAD, BAD, BAD);
        x.game(3, 0);
        due(13, "a GAME is OPEN", x.chooses(0, 2), STATE);
        due(13, "a GAME is OPEN: one without balls", x.chooses(0, 3), BAD);
        LosingLeague full = told("sides 6;rule balls;balls 0 20;balls 1 20;balls 2 20;balls 3 20;balls 4 20;balls 5 20;"
            + "choice 0 99;");
        due(30, "the most balls", full.count(3), 120);
        for (int s = 0; s < 6; s++) {
            payIs(full, s, 33, 2);
            due(13, "each may be drawn", full.chooses(0, s), s);
        }
    }

    /** "day": who won more behind GAME OUT, then the lower one, then those that were never OUT. */
    private static void choosingByDay() {
        LosingLeague x = told("sides 4;rule day;place 0 1;choice 0 80;choice 1 40;choice 2 20;choice 3 10;");
        expect(13, "none was ever OUT: the last one first", choosers(x, 0), 3, 2, 1, 0);
        games(x, 0, 1, 0, 2, 0, 3, 0, 1, 1, 2, 2, 3, 3, 1);
        endAll(x, 0, 0, 0, 0, 0, 0, 0);
        // 0 won GAMES 0 to 3; then 1 over 2, 2 over 3, 3 over 1
        // behind GAME 2: 1 has three to come, 2 two, 3 two: 2 and 3 are OUT; behind 3: 1 has two: OUT
        expect(12, "OUT", outs(x), NONE, 3, 2, 2);
        expect(13, "as many behind it: the lower one first", choosers(x, 0), 3, 2, 1, 0);
        endAll(x, 0, 0, 0, 0, 0, 0, 1);
        // 1 won two behind it, 2 one, 3 none
        expect(13, "who won more", choosers(x, 0), 1, 2, 3, 0);
        payIs(x, 0, 11, 1);
        payIs(x, 1, 80, 1);
        // wins up to GAME OUT do not count: 1 wins GAME 0 and then none
        endAll(x, 1, 0, 0, 0, 1, 1, 0);
        // behind GAME 3: 0 won three, 1 one and two to come: not OUT; 2 and 3 have two to come: OUT behind 3
        // behind GAME 4: 1 lost, one and one to come: OUT; 2 won one behind it, 3 won two
        expect(12, "OUT", outs(x), NONE, 4, 3, 3);
        expect(13, "wins ahead do not count", choosers(x, 0), 3, 2, 1, 0);
        LosingLeague y = told("sides 3;rule day;");
        games(y, 0, 1, 0, 1, 2, 0, 2, 1);
        endAll(y, 0, 0, 0, 0);
        // behind GAME 1: 0 won two, 1 has one to come: OUT; 2 has two to come: as many, never OUT
        expect(12, "as many is never OUT", outs(y), NONE, 1, NONE);
        expect(13, "those never OUT behind all, the last one first", choosers(y, 0), 1, 2, 0);
        y.ends(2, 1);
        // behind GAME 2: 0 won three, 2 one to come: OUT; it wins GAME 3
        expect(12, "OUT", outs(y), NONE, 1, 2);
        expect(13, "2 won one behind it", choosers(y, 0), 2, 1, 0);
        y.ends(3, 1);
        // 1 won one behind GAME 1, 2 none
        expect(13, "1 won one behind it", choosers(y, 0), 1, 2, 0);
    }

    /** "BAD; STATE: a GAME is OPEN"; "lowest terms", "0 is 0 by 1". */
    private static void payBounds() {
        for (int n = 2; n <= 6; n++) {
            LosingLeague x = told("sides " + n + ";round;");
            int games = n * (n - 1) / 2;
            for (int open = games; open >= 0; open--) {
                for (int s = -1; s <= n; s++) {
                    for (int what = -1; what <= 2; what++) {
                        boolean fine = s >= 0 && s < n && what >= 0 && what <= 1;
                        if (open == games || open == 1 || open == 0) {
                            due(14, "pay(" + s + ", " + what + ") with " + open, x.pay(s, what),
                                !fine ? BAD : open > 0 ? STATE : what);
                        }
                    }
                }
                x.ends(open - 1, 0);
            }
            due(14, "pay(MIN, 0)", x.pay(MIN, 0), BAD);
            due(14, "pay(MAX, 0)", x.pay(MAX, 0), BAD);
            due(14, "pay(0, MIN)", x.pay(0, MIN), BAD);
            due(14, "pay(0, MAX)", x.pay(0, MAX), BAD);
        }
        LosingLeague most = told("sides 2;place 1 99;choice 0 99;");
        payIs(most, 1, 198, 1);
        payIs(most, 0, 0, 1);
        LosingLeague lowest = told("sides 6;rule alike;choice 0 3;");
        payIs(lowest, 0, 1, 2);
        LosingLeague nothing = told("sides 2;rule balls;balls 0 20;balls 1 20;");
        payIs(nothing, 0, 0, 1);
    }

    public static void main(String[] args) {
        sidesOfGames();
        thirtyGames();
        ofBounds();
        oddsOfAll();
        endsBounds();
        tableOrder();
        mayByNumbers();
        mayState();
        outWhenFewer();
        outWithOpenOnes();
        outBounds();
        choosesBounds();
        choosingPlainly();
        choosingByBalls();
        choosingByDay();
        payBounds();
        finish();
    }
}
