/** "what is refused changes nothing (but THE TAPE, as told)": each refused call of each promise, and each question. */
public final class RefusedTest extends Bench {
    /** A call on an object; its answer. */
    private interface Call {
        long on(LosingLeague x);
    }

    /** Much is told, laid and read, so that a change would be seen; two GAMES are OPEN. */
    private static LosingLeague rich(String kind) {
        LosingLeague x = new LosingLeague();
        tell(x, "place 0 009;");
        tell(x, "sides 3;rule " + kind + ";strength 0 9;strength 2 2;place 0 60;place 1 7;choice 0 80;choice 1 9;"
            + "balls 0 3;balls 1 0;wheel 0 2;wheel 2 0;round;round;");
        endAll(x, 0, 1, 2, 1, 0);
        x.sheet(0, 0, 3);
        x.sheet(1, 1, 4);
        x.sheet(2, 2, 0);
        for (int i = 0; i < 4; i++) {
            x.lay(0, i, i - 1);
            x.lay(1, i, 3 - i);
        }
        x.read(1, 1, 3, 4, 2);
        put(x, "sides 5;round");
        return x;
    }

    /** Eight OPEN GAMES, so that none of the WORTHS is told. */
    private static LosingLeague open(String kind) {
        LosingLeague x = rich(kind);
        endAll(x, 2, 2, 2, 2, 2, 2);
        games(x, 0, 1, 1, 2);
        return x;
    }

    private static LosingLeague full(String kind) {
        LosingLeague x = rich(kind);
        for (int g = x.count(1); g < 30; g++) {
            x.game(0, 2);
            x.ends(g, g % 2);
        }
        for (int b = x.count(4); b <= 232; b += 8) {
            x.feed(0x2020202020202020L);
        }
        return x;
    }

    /** All that can be asked, with what the CELLS and THE TAPE hold: the object is used up by it. */
    private static String all(LosingLeague x) {
        StringBuilder all = new StringBuilder(seen(x));
        all.append(" tape ").append(x.text()).append(' ').append(x.fault());
        x.end(0);
        tell(x, "round;");
        for (int k = 0; k < 4; k++) {
            for (int lane = 0; lane < 3; lane++) {
                int fault = 0;
                for (int i = 0; i < 5 && fault == 0; i++) {
                    x.ends(0, 2);
                    // of no GAME: the FAULT asked for below is the next read's own
                    x.read(k, lane, i, 0, 0);
                    all.append(' ').append(x.read(k, lane, i, 0, 1)).append(x.of(0, 2));
                    fault = x.torn();
                }
                all.append(" /").append(fault);
            }
        }
        return all.toString();
    }

    private interface Maker {
        LosingLeague made();
    }

    private static void keeps(int promise, String what, Maker maker, Call call, long want) {
        LosingLeague x = maker.made();
        due(promise, what, call.on(x), want);
        same(promise, "what holds behind " + what, all(x), all(maker.made()));
    }

    private static void textAndGames() {
        for (String kind : KINDS) {
            Maker rich = () -> rich(kind), full = () -> full(kind);
            int[] bad = {MIN, -1, 3, MAX};
            for (int b : bad) {
                keeps(3, "end(" + b + ")", rich, x -> x.end(b == 3 ? 14 : b), BAD);
                keeps(6, "rule(" + b + ")", rich, x -> x.rule(b), BAD);
                keeps(7, "game(" + b + ", 0)", rich, x -> x.game(b, 0), BAD);
                keeps(7, "game(0, " + b + ")", rich, x -> x.game(0, b), BAD);
                keeps(7, "game(" + b + ", 0), full", full, x -> x.game(b, 0), BAD);
                keeps(8, "of(" + b + ", 0)", rich, x -> x.of(b == 3 ? 6 : b, 0), BAD);
                keeps(9, "ends(" + b + ", 0)", rich, x -> x.ends(b == 3 ? 6 : b, 0), BAD);
                keeps(9, "ends(2, " + b + ")", rich, x -> x.ends(2, b), BAD);
                keeps(10, "table(" + b + ", 0)", rich, x -> x.table(b, 0), BAD);
                keeps(11, "may(" + b + ", 0)", rich, x -> x.may(b, 0), BAD);
                keeps(12, "out(" + b + ")", rich, x -> x.out(b), BAD);
                keeps(13, "chooses(" + b + ", 0)", rich, x -> x.chooses(b, 0), BAD);
                keeps(14, "pay(" + b + ", 0)", rich, x -> x.pay(b, 0), BAD);
            }
            keeps(2, "feed", full, x -> x.feed(0x726f756e643b2020L), FULL);
            keeps(7, "game(1, 1)", rich, x -> x.game(1, 1), BAD);
            keeps(7, "game(0, 1)", full, x -> x.game(0, 1), FULL);
            keeps(13, "chooses(0, 0)", rich, x -> x.chooses(0, 0), STATE);
            keeps(14, "pay(0, 0)", rich, x -> x.pay(0, 0), STATE);
        }
    }

    private static void worthsAndYears() {
        for (String kind : KINDS) {
            Maker rich = () -> rich(kind), open = () -> open(kind), full = () -> full(kind);
            keeps(11, "may, 8 OPEN", open, x -> x.may(0, 0), STATE);
            keeps(15, "worth, 8 OPEN", open, x -> x.worth(0, 0), STATE);
            keeps(15, "worth(3, 0)", rich, x -> x.worth(3, 0), BAD);
            keeps(16, "worthIf, 8 OPEN", open, x -> x.worthIf(0, 0, true, 0), STATE);
            keeps(16, "worthIf, not OPEN", rich, x -> x.worthIf(0, 0, true, 0), BAD);
            keeps(16, "worthIf, not its own", rich, x -> x.worthIf(0, 2, true, 0), BAD);
            keeps(17, "wants, 8 OPEN", open, x -> x.wants(0), STATE);
            keeps(17, "wants, not OPEN", rich, x -> x.wants(0), BAD);
            keeps(18, "lose, 8 OPEN", open, x -> x.lose(0, 0), STATE);
            keeps(18, "lose(0, 3)", rich, x -> x.lose(0, 3), BAD);
            keeps(19, "odds, 8 OPEN", open, x -> x.odds(0, 0, 0), STATE);
            keeps(19, "odds(0, 3, 0)", rich, x -> x.odds(0, 3, 0), BAD);
            keeps(20, "play, 8 OPEN", open, x -> x.play(0), STATE);
            keeps(20, "play(3)", rich, x -> x.play(3), BAD);
            keeps(21, "played, 8 OPEN", open, x -> x.played(0, 0), STATE);
            keeps(21, "played(0, 2)", rich, x -> x.played(0, 2), BAD);
            keeps(22, "pays, 8 OPEN", open, x -> x.pays(0), STATE);
            keeps(22, "pays(3)", rich, x -> x.pays(3), BAD);
            keeps(23, "years(41, 0, 0)", rich, x -> x.years(41, 0, 0), BAD);
            keeps(23, "years(0, 0, 0)", full, x -> x.years(0, 0, 0), BAD);
            keeps(24, "thumbs(21, 0, 0)", rich, x -> x.thumbs(21, 0, 0), BAD);
            keeps(25, "fine(1, 1)", rich, x -> x.fine(1, 1), BAD);
            keeps(25, "fine(1, 7)", rich, x -> x.fine(1, 7), NONE);
        }
    }

    private static void sheetsAndReads() {
        Maker rich = () -> rich("day");
        keeps(26, "sheet(0, 1, -1)", rich, x -> x.sheet(0, 1, -1), -14);
        keeps(26, "sheet(0, 1, 41)", rich, x -> x.sheet(0, 1, 41), BAD);
        keeps(26, "sheet(0, 3, 1)", rich, x -> x.sheet(0, 3, 1), BAD);
        keeps(26, "sheet(4, 0, 1)", rich, x -> x.sheet(4, 0, 1), BAD);
        keeps(27, "lay(0, 3, 1)", rich, x -> x.lay(0, 3, 1), -12);
        keeps(27, "lay(0, -1, 1)", rich, x -> x.lay(0, -1, 1), -12);
        keeps(27, "lay(2, 0, 1)", rich, x -> x.lay(2, 0, 1), -12);
        keeps(27, "lay(3, 0, 1)", rich, x -> x.lay(3, 0, 1), -11);
        keeps(27, "lay(4, 0, 1)", rich, x -> x.lay(4, 0, 1), BAD);
        keeps(28, "read, CELL 0 is -1", rich, x -> x.read(0, 0, 0, 0, 3), -20);
        keeps(28, "read, CELL 0 is 3", rich, x -> x.read(1, 1, 0, 2, 4), -20);
        keeps(28, "read, g and n", rich, x -> x.read(1, 1, 1, 4, 3), BAD);
        keeps(28, "read, k", rich, x -> x.read(4, 1, 1, 0, 3), BAD);
        keeps(28, "read, lane", rich, x -> x.read(1, 3, 1, 0, 3), BAD);
        keeps(28, "read, n", rich, x -> x.read(1, 1, 1, 0, -1), BAD);
        keeps(30, "count(6)", rich, x -> x.count(6), BAD);
        keeps(30, "count(-1)", rich, x -> x.count(-1), BAD);
    }

    /** A question changes nothing either: asked a second time, behind all others, it has the same answer. */
    private static void questions() {
        for (String kind : KINDS) {
            Call[] asked = {x -> x.table(2, 0), x -> x.may(2, 0), x -> x.out(1), x -> x.worth(1, 0), x -> x.worth(2, 1),
                x -> x.worthIf(2, 2, true, 0), x -> x.worthIf(1, 2, false, 0), x -> x.wants(2), x -> x.lose(1, 0),
                x -> x.lose(0, 1), x -> x.lose(2, 2), x -> x.odds(2, 1, 0), x -> x.play(0), x -> x.play(1), x -> x.play(2),
                x -> x.played(1, 0), x -> x.pays(0), x -> x.pays(1), x -> x.pays(2), x -> x.years(7, 5, 12),
                x -> x.thumbs(7, 2, 0), x -> x.fine(9, 100), x -> x.torn(), x -> x.fault(), x -> x.rule(1)};
            LosingLeague x = rich(kind);
            StringBuilder first = new StringBuilder(), again = new StringBuilder(), alone = new StringBuilder();
            for (Call call : asked) {
                first.append(call.on(x)).append(' ');
            }
            for (Call call : asked) {
                again.append(call.on(x)).append(' ');
                alone.append(call.on(rich(kind))).append(' ');
            }
            same(15, "asked again, " + kind, again.toString(), first.toString());
            same(15, "asked of a new one, " + kind, alone.toString(), first.toString());
            same(15, "what holds behind questions, " + kind, all(x), all(rich(kind)));
        }
    }

    /** A text with a FAULT leaves all but THE TAPE; a feed that is FULL leaves THE TAPE, too. */
    private static void texts() {
        for (String kind : KINDS) {
            LosingLeague x = rich(kind);
            String was = seen(x);
            due(4, "the text that lay there", x.text(), -23);
            same(4, "what holds behind it", seen(x), was.replace(" 13 3 faults 0", " 0 3 faults 2"));
            due(4, "THE TAPE is empty", x.end(0), 0);
        }
    }

    public static void main(String[] args) {
        textAndGames();
        worthsAndYears();
        sheetsAndReads();
        questions();
        texts();
        finish();
    }
}
