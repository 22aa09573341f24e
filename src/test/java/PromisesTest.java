/** Each promise of the document by its number: ordinary inputs, the edges it names, wrong inputs. */
public final class PromisesTest extends Bench {
    private static void flaw(String text, int what, int place) {
        LosingLeague x = told("sides 3;rule day;round;");
        due(4, "text() of " + text, tell(x, text), -10 - place);
        due(5, "fault() of " + text, x.fault(), what);
        due(4, "count(4) behind " + text, x.count(4), 0);
        due(4, "count(0) behind " + text, x.count(0), 3);
        due(4, "count(1) behind " + text, x.count(1), 3);
        due(4, "rule(1) behind " + text, x.rule(1), 2);
    }

    private static void newObject() {
        LosingLeague x = new LosingLeague();
        int[] counts = {4, 0, 0, 4, 0, NONE};
        for (int what = 0; what < 6; what++) {
            due(1, "count(" + what + ")", x.count(what), counts[what]);
        }
        due(1, "rule(0)", x.rule(0), 4);
        due(1, "rule(1)", x.rule(1), 0);
        for (int i = 0; i < 4; i++) {
            due(1, "strength", x.rule(10 + i), 5);
            due(1, "place", x.rule(20 + i), 0);
            due(1, "choice", x.rule(30 + i), 0);
            due(1, "balls", x.rule(40 + i), 1);
            due(1, "wheel", x.rule(50 + i), i);
            due(1, "lay on nothing", x.lay(i, 0, 0), -11);
        }
        due(1, "fault()", x.fault(), 0);
        due(1, "torn()", x.torn(), 0);
        due(1, "play(0)", x.play(0), STATE);
    }

    private static void feedAndEnd() {
        LosingLeague x = new LosingLeague();
        for (int i = 1; i <= 30; i++) {
            due(2, "feed", x.feed(-1L), 8 * i);
        }
        due(2, "feed 31", x.feed(0), FULL);
        due(2, "count(4)", x.count(4), 240);
        due(3, "end(241)", x.end(241), BAD);
        due(3, "end(-1)", x.end(-1), BAD);
        due(3, "end(MIN)", x.end(MIN), BAD);
        due(3, "end(240)", x.end(240), 240);
        due(3, "end(233)", x.end(233), 240);
        due(2, "feed onto 233", x.feed(0), FULL);
        due(3, "end(232)", x.end(232), 233);
        due(2, "feed onto 232", x.feed(0), 240);
        due(3, "end(0)", x.end(0), 240);
        due(3, "end(0)", x.end(0), 0);
        due(3, "end(1)", x.end(1), BAD);
        x.feed(eight("sides 2;", 0));
        due(2, "the highest byte comes first", x.text(), 1);
        due(2, "so it has told", x.rule(0), 2);
    }

    private static void textTaken() {
        LosingLeague x = told("sides 6;strength 5 9;place 5 99;choice 5 98;balls 5 20;wheel 5 0;wheel 0 5;rule wheel;round;round;");
        int[][] dues = {{0, 6}, {1, 3}, {15, 9}, {14, 5}, {25, 99}, {35, 98}, {45, 20}, {44, 1}, {55, 0}, {50, 5}, {51, 1}};
        for (int[] d : dues) {
            due(6, "rule(" + d[0] + ")", x.rule(d[0]), d[1]);
        }
        due(4, "count(1)", x.count(1), 30);
        due(4, "count(2)", x.count(2), 30);
        due(4, "of(14, 0)", x.of(14, 0), 4);
        due(4, "of(14, 1)", x.of(14, 1), 5);
        due(4, "of(15, 1)", x.of(15, 1), 1);
        due(4, "an empty text", tell(x, ""), 0);
        due(4, "tells all anew", x.rule(0), 4);
        due(4, "tells all anew", x.rule(1), 0);
        due(4, "tells all anew", x.rule(13), 5);
        due(4, "without GAMES", x.count(1), 0);
        due(4, "blanks alone", tell(x, "   "), 0);
        due(4, "no blanks", tell(x, "sides3;strength2 9;choice0 09;"), 3);
        due(4, "no blanks", x.rule(30), 9);
        due(4, "many blanks", tell(x, "  sides   2  ;  round  ;  "), 2);
        due(4, "many blanks", x.count(1), 1);
        due(4, "240 bytes", tell(x, " ".repeat(225) + "sides 3; round;"), 2);
        due(4, "240 bytes", x.count(1), 3);
        due(4, "240 TOKENS", tell(x, ";".repeat(240)), -10);
        due(4, "240 TOKENS", x.fault(), 2);
        due(4, "one line too short at 240", tell(x, " ".repeat(225) + "sides 3; round "), -250);
        for (int k = 0; k < 5; k++) {
            String[] kinds = {"worst", "balls", "day", "wheel", "alike"};
            tell(x, "rule " + kinds[k] + ";");
            due(6, "rule(1) of " + kinds[k], x.rule(1), k);
        }
        tell(x, "choice 0 7;game");
        due(5, "fault()", x.fault(), 1);
        tell(x, "choice 0 7;");
        due(5, "fault() behind a good text", x.fault(), 0);
        x.game(0, 1);
        x.sheet(0, 0, 3);
        tell(x, "");
        due(4, "games go", x.count(1), 0);
        due(4, "sheets stay", x.count(5), 3);
    }

    private static void textFaults() {
        flaw("?", 1, 0);
        flaw("round\t;", 1, 5);
        flaw("Round;", 1, 0);
        flaw("round;  rounds;", 1, 8);
        flaw("place 0 007;", 1, 8);
        flaw("roundz;", 1, 0);
        flaw("aound;", 1, 0);
        flaw("rounda;", 1, 0);
        flaw("rule best;", 1, 5);
        flaw("sides \u00e9;", 1, 6);
        flaw("sides", 2, 5);
        flaw("sides  ", 2, 7);
        flaw("sides 2", 2, 7);
        flaw("sides ;", 2, 6);
        flaw("sides sides;", 2, 6);
        flaw("sides 2 2;", 2, 8);
        flaw(";", 2, 0);
        flaw("4;", 2, 0);
        flaw("alike;", 2, 0);
        flaw("rule 1;", 2, 5);
        flaw("rule sides;", 2, 5);
        flaw("round 1;", 2, 6);
        flaw("place 1;", 2, 7);
        flaw("place 1 round", 2, 8);
        flaw("sides 1;", 3, 6);
        flaw("sides 7;", 3, 6);
        flaw("sides 00;", 3, 6);
        flaw("sides 2;strength 2 1;", 3, 17);
        flaw("strength 1 0;", 3, 11);
        flaw("strength 1 10;", 3, 11);
        flaw("place 4 1;", 3, 6);
        flaw("choice 4 1;", 3, 7);
        flaw("balls 4 1;", 3, 6);
        flaw("balls 0 21;", 3, 8);
        flaw("wheel 4 1;", 3, 6);
        flaw("wheel 1 4;", 3, 8);
        flaw("sides 3;sides", 4, 8);
        String[] behind = {"strength 0 1", "place 0 1", "choice 0 1", "balls 0 1", "wheel 0 1", "round"};
        for (String line : behind) {
            flaw(line + "; sides 3;", 4, line.length() + 2);
        }
        for (int i = 0; i < 5; i++) {
            int first = behind[i].length() - 3;
            flaw(behind[i] + ";" + behind[i].substring(0, first + 1) + " !", 4, behind[i].length() + 1 + first);
        }
        flaw("rule day;rule !", 4, 9);
        flaw("sides 5;round;round;round;round!", 5, 26);
        flaw("rule balls;sides 2;balls 1 0;balls 0 0; ", 6, 40);
        flaw("wheel 0 3;rule wheel;", 6, 21);
        told("rule balls;balls 0 0;balls 1 0;balls 2 0;");
        told("rule wheel;wheel 0 3;wheel 3 0;");
        told("balls 0 0;balls 1 0;balls 2 0;balls 3 0;wheel 1 0;");
        told("sides 6;round;round;");
        told("place 0 0;choice 0 0;balls 0 0;wheel 0 0;strength 0 1;");
        // what end() has cut away is not read any more
        LosingLeague cut = new LosingLeague();
        cut.feed(eight("rounds12", 0));
        cut.end(5);
        due(4, "text() of a NAME cut short", cut.text(), -15);
        due(5, "fault() of a NAME cut short", cut.fault(), 2);
        cut.feed(eight("sides 33", 0));
        cut.end(7);
        due(4, "text() of a NUMBER cut short", cut.text(), -17);
        due(5, "fault() of a NUMBER cut short", cut.fault(), 2);
    }

    private static void ruleBad() {
        LosingLeague x = told("sides 2;");
        int[] bad = {-1, 2, 9, 12, 15, 19, 22, 32, 42, 52, 60, 61, 100, MIN, MAX};
        for (int what : bad) {
            due(6, "rule(" + what + ")", x.rule(what), BAD);
        }
        due(6, "rule(51)", x.rule(51), 1);
    }

    private static void gamesAndTable() {
        LosingLeague x = told("sides 3;strength 0 9;strength 1 1;");
        due(7, "game(0, 3)", x.game(0, 3), BAD);
        due(7, "game(-1, 0)", x.game(-1, 0), BAD);
        due(7, "game(2, 2)", x.game(2, 2), BAD);
        due(7, "game(0, 1)", x.game(0, 1), 0);
        due(7, "game(1, 0)", x.game(1, 0), 1);
        due(7, "game(2, 1)", x.game(2, 1), 2);
        int[][] dues = {{0, 0}, {0, 1}, {0, 2}, {0, 3}, {0, 4}, {0, 5}, {1, 3}, {1, 4}, {1, 5}, {2, 3}, {2, 4}, {2, 5}};
        int[] answers = {0, 1, 2, 14, 12, 14, 1, 1, 3, 13, 10, 13};
        for (int i = 0; i < dues.length; i++) {
            due(8, "of(" + dues[i][0] + ", " + dues[i][1] + ")", x.of(dues[i][0], dues[i][1]), answers[i]);
        }
        due(8, "of(3, 0)", x.of(3, 0), BAD);
        due(8, "of(-1, 0)", x.of(-1, 0), BAD);
        due(8, "of(0, 6)", x.of(0, 6), BAD);
        due(8, "of(0, -1)", x.of(0, -1), BAD);
        due(9, "ends(2, 0)", x.ends(2, 0), 2);
        due(9, "ends(2, 1)", x.ends(2, 1), 0);
        due(9, "ends(2, 3)", x.ends(2, 3), BAD);
        due(9, "ends(2, -1)", x.ends(2, -1), BAD);
        due(9, "ends(3, 0)", x.ends(3, 0), BAD);
        due(9, "ends(-1, 0)", x.ends(-1, 0), BAD);
        due(9, "of(2, 2)", x.of(2, 2), 1);
        int[][] table = {{1, 1, 2}, {0, 0, 2}, {2, 0, 0}};
        for (int p = 0; p < 3; p++) {
            for (int what = 0; what < 3; what++) {
                due(10, "table(" + p + ", " + what + ")", x.table(p, what), table[p][what]);
            }
        }
        due(10, "table(3, 0)", x.table(3, 0), BAD);
        due(10, "table(-1, 0)", x.table(-1, 0), BAD);
        due(10, "table(0, 3)", x.table(0, 3), BAD);
        due(10, "table(0, -1)", x.table(0, -1), BAD);
        due(9, "ends(2, 2)", x.ends(2, 2), 1);
        due(10, "table(0, 0)", x.table(0, 0), 0);
        for (int g = 3; g < 30; g++) {
            due(7, "game " + g, x.game(1, 2), g);
        }
        due(7, "game 30", x.game(1, 2), FULL);
        due(7, "game 30, wrong", x.game(1, 1), BAD);
        due(7, "count(1)", x.count(1), 30);
        due(8, "of at the edge 15", told("sides 2;strength 0 9;strength 1 1;round;").of(0, 5), 14);
    }

    private static void mayAndOut() {
        LosingLeague x = told("sides 3;round;");
        endAll(x, 0, 0, 2);
        // 0 has won 2, 1 and 2 have one game left, with each other
        due(11, "may(0, 0)", x.may(0, 0), 1);
        due(11, "may(1, 0)", x.may(1, 0), 0);
        due(11, "may(1, 1)", x.may(1, 1), 1);
        due(11, "may(2, 1)", x.may(2, 1), 1);
        due(11, "may(2, 2)", x.may(2, 2), 1);
        due(11, "may(3, 0)", x.may(3, 0), BAD);
        due(11, "may(0, 3)", x.may(0, 3), BAD);
        due(11, "may(-1, 0)", x.may(-1, 0), BAD);
        due(12, "out(0)", x.out(0), NONE);
        due(12, "out(1)", x.out(1), 1);
        due(12, "out(2)", x.out(2), 1);
        due(12, "out(3)", x.out(3), BAD);
        due(12, "out(-1)", x.out(-1), BAD);
        x.ends(0, 2);
        // an OPEN game ahead is still to come: 1 can win two
        due(12, "out(1) with an OPEN one ahead", x.out(1), NONE);
        due(12, "out(2) with an OPEN one ahead", x.out(2), NONE);
        LosingLeague y = told("sides 3;");
        for (int g = 0; g < 8; g++) y.game(0, 1);
        due(11, "may with 8 OPEN", y.may(0, 0), STATE);
        due(11, "may with 8 OPEN, wrong", y.may(0, 3), BAD);
        y.ends(7, 1);
        due(11, "may(2, 1) with 7 OPEN", y.may(2, 1), 0);
        due(11, "may(0, 0) with 7 OPEN", y.may(0, 0), 1);
        LosingLeague z = told("sides 3;round;");
        z.ends(0, 1);
        // 2 needs both of its own, and then is alone with two
        due(11, "may(2, 0)", z.may(2, 0), 1);
        // if 0 wins its own it has one; 1 lies best with one, 2 with none
        due(11, "may(0, 0)", z.may(0, 0), 1);
        z.ends(2, 0);
        due(11, "may(0, 0) when 1 has two", z.may(0, 0), 0);
    }

    private static void choosing() {
        String worths = "choice 0 60;choice 1 30;choice 2 10;";
        LosingLeague x = told("sides 3;" + worths + "place 0 5;place 2 1;round;");
        due(13, "chooses with an OPEN one", x.chooses(0, 0), STATE);
        due(13, "chooses(3, 0)", x.chooses(3, 0), BAD);
        due(13, "chooses(-1, 0)", x.chooses(-1, 0), BAD);
        due(14, "pay with an OPEN one", x.pay(0, 0), STATE);
        due(14, "pay(3, 0)", x.pay(3, 0), BAD);
        due(14, "pay(0, 2)", x.pay(0, 2), BAD);
        due(14, "pay(0, -1)", x.pay(0, -1), BAD);
        endAll(x, 1, 1, 1);
        // 2 has two, 1 one, 0 none
        int[] worstFirst = {0, 1, 2}, pays = {61, 30, 15};
        for (int i = 0; i < 3; i++) {
            due(13, "worst: chooses", x.chooses(i, MAX), worstFirst[i]);
            due(14, "worst: pay", x.pay(i, 0), pays[i]);
            due(14, "worst: pay", x.pay(i, 1), 1);
        }
        ballsChoose(worths);
        dayChooses();
        LosingLeague w = told("sides 3;rule wheel;wheel 0 1;wheel 1 2;wheel 2 0;" + worths);
        due(13, "wheel", w.chooses(0, -5), 1);
        due(13, "wheel", w.chooses(1, 0), 2);
        due(14, "wheel: pay(0)", w.pay(0, 0), 10);
        due(14, "wheel: pay(1)", w.pay(1, 0), 60);
        LosingLeague a = told("sides 3;rule alike;place 1 1;choice 1 70;round;");
        due(13, "alike, OPEN", a.chooses(0, 0), STATE);
        endAll(a, 0, 0, 0);
        due(13, "alike", a.chooses(0, 0), NONE);
        due(13, "alike, wrong", a.chooses(3, 0), BAD);
        due(14, "alike: pay(0)", a.pay(0, 0), 70);
        due(14, "alike: pay(0)", a.pay(0, 1), 3);
        due(14, "alike: pay(1)", a.pay(1, 0), 73);
    }

    private static void ballsChoose(String worths) {
        LosingLeague b = told("sides 3;rule balls;balls 0 3;balls 1 0;balls 2 1;" + worths + "round;");
        // with none won the TABLE is 0, 1, 2: side 1 is one from the last, and has no balls
        due(13, "balls: OPEN, a SIDE without balls", b.chooses(0, 1), BAD);
        due(13, "balls: OPEN, no SIDE", b.chooses(0, 3), BAD);
        due(13, "balls: OPEN", b.chooses(0, 2), STATE);
        endAll(b, 0, 0, 0);
        int[][] order = {{0, 2, 1}, {}, {2, 1, 0}};
        for (int c = 0; c < 3; c++) {
            due(13, "balls: 0 drawn", b.chooses(c, 0), order[0][c]);
            due(13, "balls: 1 drawn", b.chooses(c, 1), BAD);
            due(13, "balls: 2 drawn", b.chooses(c, 2), order[2][c]);
        }
        due(13, "balls: -1 drawn", b.chooses(0, -1), BAD);
        due(13, "balls: 3 drawn", b.chooses(0, 3), BAD);
        // 0: 1/4 of 60 and 3/4 of 10; 1: 1/4 of 10 and 3/4 of 30; 2: 1/4 of 30 and 3/4 of 60
        int[][] pays = {{45, 2}, {25, 1}, {105, 2}};
        for (int s = 0; s < 3; s++) {
            due(14, "balls: pay", b.pay(s, 0), pays[s][0]);
            due(14, "balls: pay", b.pay(s, 1), pays[s][1]);
        }
        LosingLeague one = told("sides 2;rule balls;balls 1 0;place 0 7;choice 0 60;choice 1 1;");
        due(14, "one ball in all", one.pay(0, 0), 8);
        due(14, "one ball in all", one.pay(1, 0), 60);
        due(14, "one ball in all", one.pay(1, 1), 1);
    }

    private static void dayChooses() {
        LosingLeague d = told("sides 3;rule day;choice 0 60;choice 1 30;choice 2 10;");
        int[][] games = {{0, 1}, {0, 2}, {0, 1}, {0, 2}, {1, 2}, {2, 0}, {1, 2}};
        int[] ends = {0, 0, 0, 0, 1, 0, 1};
        for (int g = 0; g < 7; g++) {
            d.game(games[g][0], games[g][1]);
            d.ends(g, ends[g]);
        }
        // behind game 3: 0 has four; 1 has two to come, 2 has three: both are OUT then or before
        due(12, "out(1)", d.out(1), 2);
        due(12, "out(2)", d.out(2), 3);
        due(12, "out(0)", d.out(0), NONE);
        // behind it 2 won three, 1 none; 0 was never OUT
        int[] order = {2, 1, 0};
        int[] pays = {10, 30, 60};
        for (int i = 0; i < 3; i++) {
            due(13, "day: chooses", d.chooses(i, 9), order[i]);
            due(14, "day: pay", d.pay(i, 0), pays[i]);
        }
        LosingLeague e = told("sides 4;rule day;");
        due(13, "day: never OUT, the last one first", e.chooses(0, 0), 3);
        due(13, "day: never OUT, the first one last", e.chooses(3, 0), 0);
    }

    private static void worths() {
        // one game between even sides; the loser chooses first
        LosingLeague x = told("sides 2;place 0 10;choice 0 40;round;");
        due(15, "worth(0, 0)", x.worth(0, 0), 25);
        due(15, "worth(0, 1)", x.worth(0, 1), 1);
        due(16, "worthIf won", x.worthIf(0, 0, true, 0), 10);
        due(16, "worthIf lost", x.worthIf(0, 0, false, 0), 40);
        due(16, "worthIf second won", x.worthIf(1, 0, true, 0), 10);
        due(17, "wants(0)", x.wants(0), 3);
        due(18, "lose(0, 0)", x.lose(0, 0), 0);
        due(18, "lose(7, 1)", x.lose(7, 1), 0);
        due(18, "lose(1, 2)", x.lose(1, 2), 1);
        due(20, "play(0)", x.play(0), 3);
        due(21, "played(0, 0)", x.played(0, 0), 25);
        due(22, "pays(0)", x.pays(0), 2);
        // a place that is worth as much: nobody wants to lose, and both try
        LosingLeague y = told("sides 2;strength 0 9;strength 1 1;place 0 40;choice 0 40;round;");
        due(17, "wants, all the same", y.wants(0), 0);
        due(18, "lose(0, 0), all the same", y.lose(0, 0), NONE);
        due(18, "lose(0, 1), all the same", y.lose(0, 1), NONE);
        due(18, "lose(0, 2), all the same", y.lose(0, 2), 0);
        due(20, "play(0), all the same", y.play(0), 0);
        due(20, "play(1), all the same", y.play(1), 1);
        due(22, "pays(1), all the same", y.pays(1), NONE);
        due(19, "odds(0, 0, 0)", y.odds(0, 0, 0), 7);
        due(19, "odds(0, 0, 1)", y.odds(0, 0, 1), 8);
        due(19, "odds(0, 1, 0)", y.odds(0, 1, 0), 1);
        due(19, "odds(1, 1, 1)", y.odds(1, 1, 1), 8);
        LosingLeague z = told("sides 2;");
        due(19, "odds of what is sure", z.odds(0, 0, 0), 1);
        due(19, "odds of what can not be", z.odds(0, 1, 0), 0);
        due(19, "odds of what can not be", z.odds(0, 1, 1), 1);
        due(15, "worth(1, 1) of 0", z.worth(1, 1), 1);
        due(21, "played without OPEN ones", z.played(1, 1), 1);
        due(22, "pays(1) without OPEN ones", z.pays(1), NONE);
        due(22, "pays(2) without OPEN ones", z.pays(2), 0);
    }

    private static void onlyOneWants() {
        // 0 is sure of the first place; 1 and 2 play for the second, which is worth 20 to them, the choice 30
        LosingLeague x = told("sides 3;strength 2 1;place 1 20;choice 0 30;choice 1 20;round;");
        endAll(x, 0, 0, 2);
        // lost by 1: 1 is last, 30; won: place 20 and choice 20
        due(16, "1 won", x.worthIf(1, 2, true, 0), 40);
        due(16, "1 lost", x.worthIf(1, 2, false, 0), 30);
        due(17, "wants(2)", x.wants(2), 0);
        due(20, "play(2)", x.play(2), 2);
        LosingLeague y = told("sides 3;place 1 20;choice 0 60;choice 2 50;round;");
        endAll(y, 0, 2, 1);
        // game 1 of 0 and 2: 0 won: 0 two, 2 one, 1 none; 2 won: 2 two, 0 one, 1 none
        // 0: won 50, lost 20; 2: won 50, lost 20
        due(16, "0 won", y.worthIf(0, 1, true, 0), 50);
        due(16, "0 lost", y.worthIf(0, 1, false, 0), 20);
        due(17, "wants(1)", y.wants(1), 0);
        LosingLeague z = told("sides 3;place 0 50;choice 0 60;round;");
        endAll(z, 0, 2, 0);
        // game 1: 0 won: 0 two, 1 one, 2 none; 2 won: all have one: 0, 1, 2: only 2 does not care
        due(17, "wants(1), the same", z.wants(1), 0);
        LosingLeague w = told("sides 3;place 0 50;place 1 40;choice 0 60;round;");
        endAll(w, 2, 1, 1);
        // 2 has two; 0 and 1 have none and play for place 1 with 40 against the last one's 60
        due(17, "wants(0)", w.wants(0), 3);
        LosingLeague one = told("sides 3;place 0 90;place 1 5;choice 0 10;round;");
        endAll(one, 2, 0, 0);
        // 0 and 1 have one each: for 90 both try
        due(17, "wants(0)", one.wants(0), 0);
        due(20, "play(0)", one.play(0), 0);
        LosingLeague two = told("sides 3;place 0 50;place 1 5;choice 0 60;round;");
        endAll(two, 2, 0, 1);
        // 0 and 2 have one each, 1 none: 0 won: 0 first; 1 won: all have one, 0 stays first, 1 second, 2 last
        // for 0 it is the same; 1: won 5, lost 60: it alone wants to lose
        due(17, "wants(0), the second alone", two.wants(0), 2);
        due(18, "lose(1, 0)", two.lose(1, 0), 0);
        due(18, "lose(0, 0)", two.lose(0, 0), NONE);
        due(18, "lose(0, 1)", two.lose(0, 1), NONE);
        due(20, "play(0), the second RESTS", two.play(0), 1);
        // 0 try, 1 rest: 16 * 5 / 7 = 11: 1 has 60 * 11/16 + 5 * 5/16
        due(21, "played(1, 0)", two.played(1, 0), 685);
        due(21, "played(1, 1)", two.played(1, 1), 16);
        LosingLeague turned = told("sides 3;place 0 50;place 1 5;choice 0 60;");
        turned.game(1, 0);
        turned.game(0, 2);
        turned.game(1, 2);
        endAll(turned, 2, 0, 1);
        due(17, "wants(0), the first alone", turned.wants(0), 1);
        due(20, "play(0), the first RESTS", turned.play(0), 2);
    }

    private static void worthsRefused() {
        LosingLeague x = told("sides 4;");
        for (int g = 0; g < 8; g++) x.game(0, 1);
        due(15, "worth, 8 OPEN", x.worth(0, 0), STATE);
        due(15, "worth, 8 OPEN, wrong", x.worth(4, 0), BAD);
        due(15, "worth(0, 2)", x.worth(0, 2), BAD);
        due(15, "worth(-1, 0)", x.worth(-1, 0), BAD);
        due(16, "worthIf, 8 OPEN", x.worthIf(0, 0, true, 0), STATE);
        due(16, "worthIf, not its own", x.worthIf(2, 0, true, 0), BAD);
        due(16, "worthIf, no such", x.worthIf(0, 8, true, 0), BAD);
        due(16, "worthIf, what", x.worthIf(0, 0, true, 2), BAD);
        due(16, "worthIf, side", x.worthIf(4, 0, true, 0), BAD);
        due(17, "wants, 8 OPEN", x.wants(0), STATE);
        due(17, "wants(8)", x.wants(8), BAD);
        due(17, "wants(-1)", x.wants(-1), BAD);
        due(18, "lose, 8 OPEN", x.lose(0, 2), STATE);
        due(18, "lose(4, 0)", x.lose(4, 0), BAD);
        due(18, "lose(4, 1)", x.lose(4, 1), STATE);
        due(18, "lose(4, 2)", x.lose(4, 2), BAD);
        due(18, "lose(0, 3)", x.lose(0, 3), BAD);
        due(18, "lose(0, -1)", x.lose(0, -1), BAD);
        due(19, "odds, 8 OPEN", x.odds(0, 0, 0), STATE);
        due(19, "odds(0, 4, 0)", x.odds(0, 4, 0), BAD);
        due(19, "odds(4, 0, 0)", x.odds(4, 0, 0), BAD);
        due(19, "odds(0, 0, 2)", x.odds(0, 0, 2), BAD);
        due(22, "pays, 8 OPEN", x.pays(0), STATE);
        due(22, "pays(3)", x.pays(3), BAD);
        due(22, "pays(-1)", x.pays(-1), BAD);
        x.ends(0, 1);
        due(15, "worth, 7 OPEN", x.worth(0, 1), 1);
        due(16, "worthIf, not OPEN", x.worthIf(0, 0, true, 0), BAD);
        due(17, "wants, not OPEN", x.wants(0), BAD);
        due(17, "wants, 7 OPEN", x.wants(7), 0);
        due(19, "odds of all lost", x.odds(0, 1, 0) > 0 ? 1 : 0, 1);
        due(22, "pays(2), 7 OPEN", x.pays(2), 127);
        x.ends(1, 1);
        due(20, "play, 6 OPEN", x.play(0), STATE);
        due(20, "play(3)", x.play(3), BAD);
        due(20, "play(-1)", x.play(-1), BAD);
        due(21, "played, 6 OPEN", x.played(0, 0), STATE);
        due(21, "played(4, 0)", x.played(4, 0), BAD);
        due(21, "played(0, 2)", x.played(0, 2), BAD);
        x.ends(2, 1);
        due(20, "play(2), 5 OPEN", x.play(2), 3);
        due(21, "played, 5 OPEN", x.played(0, 0), 0);
        for (int g = 3; g < 8; g++) x.ends(g, 0);
        due(20, "play, none OPEN", x.play(2), STATE);
        due(20, "play(3), none OPEN", x.play(3), BAD);
    }

    private static void yearsPass() {
        LosingLeague x = told("sides 2;strength 0 9;strength 1 1;choice 0 20;round;");
        x.ends(0, 1);
        // seed 0: 12345 has bits 16 to 30 all 0, so the first draw is 0: the first side wins;
        // then 0 is 9 - 1, 1 is 1 + 2 - 1
        due(23, "years(1, 0, 0)", x.years(1, 0, 0), 0);
        due(23, "years(1, 0, 1)", x.years(1, 0, 1), 1);
        due(23, "years(1, 0, 2)", x.years(1, 0, 2), 6);
        due(23, "years(1, 0, 3)", x.years(1, 0, 3), 6);
        due(23, "years(1, 0, 4)", x.years(1, 0, 4), NONE);
        due(23, "years(1, 0, 10)", x.years(1, 0, 10), 8);
        due(23, "years(1, 0, 11)", x.years(1, 0, 11), 2);
        int[][] bad = {{0, 0}, {-1, 0}, {41, 0}, {1, -1}, {1, 5}, {1, 9}, {1, 12}, {1, MAX}, {1, MIN}};
        for (int[] b : bad) {
            due(23, "years(" + b[0] + ", 1, " + b[1] + ")", x.years(b[0], 1, b[1]), BAD);
        }
        due(23, "strengths stay", x.rule(10), 9);
        due(23, "ends stay", x.of(0, 2), 1);
        LosingLeague y = told("sides 2;rule balls;balls 0 0;choice 0 99;");
        // the last one has no balls, so the first one grows: 5 + 9 - 1 and 5 - 1
        due(23, "balls", y.years(1, 0, 10), 9);
        due(23, "balls", y.years(1, 0, 11), 4);
        LosingLeague z = told("sides 2;rule wheel;wheel 0 1;wheel 1 0;choice 0 10;");
        due(23, "wheel: one keeps, one falls to 1", z.years(40, 7, 11), 5);
        due(23, "wheel: one keeps, one falls to 1", z.years(40, 7, 10), 1);
        due(23, "wheel", z.years(40, 7, 2), 4);
        LosingLeague a = told("sides 2;rule alike;choice 0 20;"), w = told("sides 2;rule worst;choice 0 20;");
        for (int seed = 0; seed < 20; seed++) {
            for (int what = 0; what < 5; what++) {
                due(23, "alike is as worst", a.years(13, seed, what), w.years(13, seed, what));
            }
        }
    }

    private static void thumbsAndFines() {
        LosingLeague x = new LosingLeague();
        due(24, "thumbs(1, 1, 0)", x.thumbs(1, 1, 0), 1);
        due(24, "thumbs(1, 1, 1)", x.thumbs(1, 1, 1), 6);
        due(24, "thumbs(2, 1, 0)", x.thumbs(2, 1, 0), 11);
        due(24, "thumbs(2, 1, 1)", x.thumbs(2, 1, 1), 36);
        due(24, "thumbs(3, 2, 0)", x.thumbs(3, 2, 0), 2);
        due(24, "thumbs(3, 2, 1)", x.thumbs(3, 2, 1), 27);
        due(24, "thumbs(20, 0, 1)", x.thumbs(20, 0, 1), 1);
        int[][] bad = {{0, 0, 0}, {21, 0, 0}, {5, -1, 0}, {5, 6, 0}, {5, 5, 2}, {5, 5, -1}, {MIN, 0, 0}, {MAX, 0, 0}};
        for (int[] b : bad) {
            due(24, "thumbs(" + b[0] + ", " + b[1] + ", " + b[2] + ")", x.thumbs(b[0], b[1], b[2]), BAD);
        }
        due(25, "fine(1, 6)", x.fine(1, 6), 1);
        due(25, "fine(1, 7)", x.fine(1, 7), NONE);
        due(25, "fine(2, 2)", x.fine(2, 2), 1);
        due(25, "fine(2, 36)", x.fine(2, 36), 2);
        due(25, "fine(2, 37)", x.fine(2, 37), NONE);
        due(25, "fine(20, 2)", x.fine(20, 2), 4);
        due(25, "fine(0, 2)", x.fine(0, 2), BAD);
        due(25, "fine(21, 2)", x.fine(21, 2), BAD);
        due(25, "fine(2, 1)", x.fine(2, 1), BAD);
        due(25, "fine(2, 1001)", x.fine(2, 1001), BAD);
    }

    private static void sheetsAndCells() {
        LosingLeague x = new LosingLeague();
        due(26, "sheet(0, 0, 40)", x.sheet(0, 0, 40), 1);
        due(26, "count(5)", x.count(5), 40);
        due(26, "sheet(0, 0, 41)", x.sheet(0, 0, 41), BAD);
        due(26, "sheet(0, 0, -1)", x.sheet(0, 0, -1), -14);
        due(26, "sheet(0, 0, MIN)", x.sheet(0, 0, MIN), -14);
        due(26, "sheet(4, 0, -1)", x.sheet(4, 0, -1), BAD);
        due(26, "sheet(-1, 0, 1)", x.sheet(-1, 0, 1), BAD);
        due(26, "sheet(0, 3, -1)", x.sheet(0, 3, -1), BAD);
        due(26, "sheet(0, -1, 1)", x.sheet(0, -1, 1), BAD);
        due(26, "the refused change nothing", x.count(5), 40);
        due(27, "lay(0, 39, 1)", x.lay(0, 39, 1), 1);
        due(27, "lay(0, 40, 1)", x.lay(0, 40, 1), -12);
        due(27, "lay(0, -1, 1)", x.lay(0, -1, 1), -12);
        due(27, "lay(3, -1, 1)", x.lay(3, -1, 1), -11);
        due(27, "lay(4, 0, 1)", x.lay(4, 0, 1), BAD);
        due(27, "lay(-1, 0, 1)", x.lay(-1, 0, 1), BAD);
        due(26, "sheet(0, 2, 0)", x.sheet(0, 2, 0), 1);
        due(26, "count(5)", x.count(5), 0);
        due(27, "lay(0, 0, 1) on an empty one", x.lay(0, 0, 1), -12);
        x.game(0, 1);
        x.ends(0, 0);
        int[] lanes = {257, 65537, 1};
        for (int lane = 0; lane < 3; lane++) {
            x.ends(0, 0);
            x.sheet(1, lane, 1);
            due(27, "lay(1, 0, " + lanes[lane] + ")", x.lay(1, 0, lanes[lane]), 1);
            due(28, "the lowest bits are read", x.read(1, lane, 0, 0, 1), 1);
            due(28, "the lowest bits are read", x.of(0, 2), 1);
        }
        x.sheet(1, 1, 1);
        x.lay(1, 0, 257);
        due(27, "SHORTS keep 257", x.read(1, 1, 0, 0, 1), -20);
        x.sheet(1, 2, 1);
        x.lay(1, 0, 65537);
        due(27, "INTS keep 65537", x.read(1, 2, 0, 0, 1), -20);
        x.sheet(1, 0, 1);
        x.lay(1, 0, 255);
        due(27, "BYTES have a sign", x.read(1, 0, 0, 0, 1), -20);
        x.sheet(1, 0, 1);
        due(26, "a new row has CELLS 0", x.read(1, 0, 0, 0, 1), 1);
        due(26, "a new row has CELLS 0", x.of(0, 2), 0);
    }

    private static void readAndTorn() {
        LosingLeague x = told("sides 3;round;");
        x.sheet(2, 1, 3);
        x.lay(2, 0, 1);
        x.lay(2, 2, 2);
        due(28, "read all", x.read(2, 1, 0, 0, 3), 2);
        due(29, "torn()", x.torn(), 0);
        due(28, "read all again", x.read(2, 1, 0, 0, 3), 0);
        due(28, "read over the end", x.read(2, 1, 2, 0, 2), 1);
        due(29, "INDEX", x.torn(), 2);
        due(28, "those ahead became so", x.of(0, 2), 2);
        due(28, "those behind stay", x.of(1, 2), 0);
        due(28, "BAD k", x.read(4, 1, 0, 0, 1), BAD);
        due(28, "BAD lane", x.read(2, 3, 0, 0, 1), BAD);
        due(28, "BAD n", x.read(2, 1, 0, 0, -1), BAD);
        due(28, "BAD n", x.read(2, 1, 0, 0, 31), BAD);
        due(28, "BAD g", x.read(2, 1, 0, 4, 0), BAD);
        due(28, "BAD g and n", x.read(2, 1, 0, 2, 2), BAD);
        due(28, "BAD g", x.read(2, 1, 0, MAX, 1), BAD);
        due(29, "a refused one leaves it", x.torn(), 2);
        x.lay(2, 1, 3);
        due(28, "a CELL that is none", x.read(2, 1, 0, 0, 3), -21);
        due(28, "then none did", x.of(0, 2), 2);
        due(29, "it came to no end", x.torn(), 2);
        due(28, "the CELL ahead of the INDEX", x.read(2, 1, 1, 0, 3), -20);
        due(28, "none to read", x.read(2, 1, 40, 0, 0), 0);
        due(29, "none to read", x.torn(), 0);
        due(28, "CAST", x.read(2, 2, 0, 0, 1), 0);
        due(29, "CAST", x.torn(), 3);
        due(28, "NULL", x.read(3, 2, -1, 0, 1), 0);
        due(29, "NULL", x.torn(), 1);
        due(28, "INDEX below", x.read(2, 1, -1, 0, 2), 0);
        due(29, "INDEX below", x.torn(), 2);
        due(28, "INDEX far", x.read(2, 1, MAX, 0, 3), 0);
        due(28, "INDEX far below", x.read(2, 1, MIN, 0, 3), 0);
        due(29, "INDEX far below", x.torn(), 2);
        LosingLeague y = told("round;round;round;round;round;");
        y.sheet(0, 0, 40);
        due(28, "thirty", y.read(0, 0, 10, 0, 30), 30);
        due(28, "thirty", y.count(2), 0);
        due(28, "thirty, the last is missing", y.read(0, 0, 11, 0, 30), 0);
        due(29, "thirty, the last is missing", y.torn(), 2);
    }

    /** Each read of no GAME follows one with a FAULT, so that a FAULT 0 is seen to be the later one's. */
    private static void readOfNone() {
        LosingLeague x = told("sides 3;round;");
        x.sheet(0, 0, 2);
        x.sheet(1, 1, 0);
        x.sheet(2, 2, 40);
        int[] from = {0, 1, 2, 40, -1, MIN, MAX};
        for (int k = 0; k < 4; k++) {
            for (int lane = 0; lane < 3; lane++) {
                for (int f : from) {
                    String what = "read(" + k + ", " + lane + ", " + f + ", .., 0)";
                    x.read(3, 0, 0, 0, 1);
                    due(29, "NULL ahead of " + what, x.torn(), 1);
                    due(28, what, x.read(k, lane, f, Math.abs(f % 4), 0), 0);
                    due(29, "torn() behind " + what, x.torn(), 0);
                }
            }
        }
        due(28, "no END became another", x.count(2), 3);
    }

    /** With one END to read, of each SHEET as of each lane: NULL whatever the lane, CAST ahead of INDEX. */
    private static void readOfOne() {
        LosingLeague x = told("sides 3;round;");
        x.sheet(0, 0, 1);
        x.sheet(1, 1, 0);
        x.sheet(2, 2, 1);
        int[][] faults = {{0, 3, 3}, {3, 2, 3}, {3, 3, 0}, {1, 1, 1}};
        int[][] behind = {{2, 3, 3}, {3, 2, 3}, {3, 3, 2}, {1, 1, 1}};
        for (int k = 0; k < 4; k++) {
            for (int lane = 0; lane < 3; lane++) {
                x.ends(0, 1);
                due(28, "one of SHEET " + k + " as " + lane, x.read(k, lane, 0, 0, 1), faults[k][lane] == 0 ? 1 : 0);
                due(29, "one of SHEET " + k + " as " + lane, x.torn(), faults[k][lane]);
                due(28, "one behind SHEET " + k + " as " + lane, x.read(k, lane, 1, 0, 1), 0);
                due(29, "one behind SHEET " + k + " as " + lane, x.torn(), behind[k][lane]);
            }
        }
    }

    private static void counts() {
        LosingLeague x = told("sides 5;balls 0 0;balls 4 20;round;");
        x.ends(3, 0);
        x.feed(0);
        x.sheet(0, 2, 7);
        int[] counts = {5, 10, 9, 23, 8, 7};
        for (int what = 0; what < 6; what++) {
            due(30, "count(" + what + ")", x.count(what), counts[what]);
        }
        due(30, "count(6)", x.count(6), BAD);
        due(30, "count(-1)", x.count(-1), BAD);
    }

    public static void main(String[] args) {
        newObject();
        feedAndEnd();
        textTaken();
        textFaults();
        ruleBad();
        gamesAndTable();
        mayAndOut();
        choosing();
        worths();
        onlyOneWants();
        worthsRefused();
        yearsPass();
        thumbsAndFines();
        sheetsAndCells();
        readAndTorn();
        readOfNone();
        readOfOne();
        counts();
        finish();
    }
}
