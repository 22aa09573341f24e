/** Promises 1 to 6: each boundary that the document names of THE TAPE, its TOKENS and its FAULTS, on both sides. */
public final class TextBoundsTest extends Bench {
    private static final String[] PAIRS = {"strength", "place", "choice", "balls", "wheel"};
    private static final int[] LEAST = {1, 0, 0, 0, 0};
    private static final int[] MOST = {9, 99, 99, 20, -1};
    private static final String[] LINES = {"sides", "strength", "place", "choice", "rule", "balls", "wheel", "round"};
    private static final String BEFORE = "sides 3;rule wheel;strength 0 2;place 1 7;choice 2 8;balls 0 3;"
        + "wheel 0 2;wheel 2 0;round;";

    private static void taken(String text) {
        told(text);
    }

    /** Held in an object of which much was told: all of that stays, but THE TAPE is empty. */
    private static void refused(String text, int fault, int place) {
        LosingLeague x = new LosingLeague();
        tell(x, BEFORE);
        x.ends(1, 1);
        x.ends(2, 0);
        String was = seen(x).replaceAll("faults 0", "faults " + fault);
        due(4, "text() of '" + text + "'", tell(x, text), -10 - place);
        due(5, "fault() of '" + text + "'", x.fault(), fault);
        same(4, "what holds behind '" + text + "'", seen(x), was);
    }

    private static void refusedAtEnd(String text, int fault) {
        refused(text, fault, text.length());
    }

    // ---- promise 1

    /** "4 at first", "5 at first", and what holds if it is not told. */
    private static void newObject() {
        String first = "4 0 / 5 5 5 5 / 0 0 0 0 / 0 0 0 0 / 1 1 1 1 / 0 1 2 3 games counts 4 0 0 4 0 -4 faults 0 0";
        LosingLeague x = new LosingLeague();
        same(1, "a new object", seen(x), first);
        tell(x, BEFORE);
        x.sheet(0, 0, 3);
        x.feed(0);
        same(1, "another new object", seen(new LosingLeague()), first);
        for (int k = 0; k < 4; k++) {
            due(1, "SHEET " + k + " has nothing", new LosingLeague().lay(k, 0, 0), -11);
        }
        due(1, "no GAME 0", new LosingLeague().of(0, 0), BAD);
        due(1, "no GAME 0", new LosingLeague().ends(0, 0), BAD);
    }

    // ---- promises 2 and 3

    /** "FULL: more than 240": eight more bytes fit onto 232 and not onto 233 to 240. */
    private static void tapeIsFull() {
        for (int had = 225; had <= 240; had++) {
            LosingLeague x = new LosingLeague();
            for (int i = 1; i <= 30; i++) {
                due(2, "feed", x.feed(eight("        ", 0)), 8 * i);
            }
            x.end(had);
            due(2, "feed onto " + had, x.feed(eight("round;  ", 0)), had > 232 ? FULL : had + 8);
            due(2, "count(4)", x.count(4), had > 232 ? had : had + 8);
            due(2, "text() of it", x.text(), had > 232 ? 0 : 1);
            due(2, "empty then", x.count(4), 0);
            due(2, "feed onto an empty one", x.feed(0), 8);
        }
    }

    /** "the highest first": each of eight places, by the place of a byte that is no TOKEN. */
    private static void highestByteFirst() {
        for (int i = 0; i < 8; i++) {
            LosingLeague x = new LosingLeague();
            long blanks = 0x2020202020202020L;
            x.feed(blanks);
            x.feed(blanks ^ 1L << 8 * (7 - i));
            due(2, "a byte 33 at " + (8 + i), x.text(), -18 - i);
            due(5, "a byte 33", x.fault(), 1);
        }
        LosingLeague minus = new LosingLeague();
        minus.feed(0x2020202020202080L);
        due(2, "a byte 128", minus.text(), -17);
        minus.feed(-1L);
        due(2, "bytes 255", minus.text(), -10);
    }

    /** "keeps its first n bytes": 0 to as many as it has. */
    private static void ends() {
        int[] lengths = {0, 8, 16, 240};
        for (int length : lengths) {
            LosingLeague x = new LosingLeague();
            for (int i = 0; i < length; i += 8) {
                x.feed(0);
            }
            int[] bad = {-1, length + 1, MIN, MAX};
            for (int n : bad) {
                due(3, "end(" + n + ") of " + length, x.end(n), BAD);
                due(3, "count(4)", x.count(4), length);
            }
            due(3, "end of all", x.end(length), length);
            due(3, "count(4)", x.count(4), length);
            if (length > 0) {
                due(3, "end of one less", x.end(length - 1), length);
                due(3, "end of what was cut", x.end(length), BAD);
                due(3, "count(4)", x.count(4), length - 1);
            }
            due(3, "end(0)", x.end(0), Math.max(0, length - 1));
            due(3, "end(0) again", x.end(0), 0);
        }
        LosingLeague x = new LosingLeague();
        x.feed(eight("sides 6;", 0));
        x.end(6);
        due(3, "fed behind the cut", x.feed(eight("3;", 0)), 14);
        due(3, "fed behind the cut", x.text(), 1);
        due(3, "fed behind the cut", x.rule(0), 3);
        x.feed(eight("sides 6;", 0));
        x.end(7);
        due(3, "its last byte is gone", x.text(), -17);
    }

    // ---- promises 4 and 5: TOKENS

    /** Each byte alone: blanks are 32 alone, NAMES a to z, NUMBERS 0 to 9, one ; */
    private static void everyByteAlone() {
        for (int b = 0; b < 256; b++) {
            char sign = (char) b;
            if (sign == ' ') {
                taken(" ");
            } else {
                refused("" + sign, sign == ';' || (sign >= '0' && sign <= '9') ? 2 : 1, 0);
            }
        }
    }

    /** Each byte between a NAME and a NUMBER. */
    private static void everyByteBetween() {
        for (int b = 0; b < 256; b++) {
            char sign = (char) b;
            String text = "sides" + sign + "3;";
            if (sign == ' ' || sign == '0') {
                due(4, "SIDES by " + text, told(text).rule(0), 3);
            } else if (sign >= '1' && sign <= '9') {
                refused(text, 3, 5);
            } else if (sign >= 'a' && sign <= 'z') {
                refused(text, 1, 0);
            } else {
                refused(text, sign == ';' ? 2 : 1, 5);
            }
        }
    }

    /** "blanks (32) between": none, many, ahead of all, behind all. */
    private static void blanks() {
        taken("sides3;strength2 9;rule day;round;");
        taken("  sides   3  ;  strength  2   9  ;   round   ;   ");
        taken(" ".repeat(240));
        taken(" ".repeat(232) + "sides 3;");
        taken("sides 3;" + " ".repeat(232));
        for (int k = 0; k < 240; k++) {
            refused(" ".repeat(k) + "?", 1, k);
        }
    }

    /** "each as long as may be". */
    private static void longestTokens() {
        refused("roundround;", 1, 0);
        refused("sidesrule", 1, 0);
        refused("place 0 1place 1 1;", 2, 9);
        refused("place 0 1 0;", 2, 10);
        taken("place 0 10;");
        due(4, "10 is one NUMBER", told("place 0 10;").rule(20), 10);
        refused("place 01;", 2, 8);
        refused("place 0 1;;", 2, 10);
        refused("place 0 123;", 1, 8);
    }

    /** "NUMBERS (1 or 2 figures)", "a NUMBER that is too long (its first byte)". */
    private static void figures() {
        String[] fine = {"0", "9", "00", "09", "10", "99"};
        for (String number : fine) {
            LosingLeague x = told("place 0 " + number + ";");
            due(6, "rule(20) of " + number, x.rule(20), Integer.parseInt(number));
        }
        String[] tooLong = {"000", "001", "099", "100", "999", "0000", "4294967297", "12345678901234567890"};
        for (String number : tooLong) {
            refused("place 0 " + number + ";", 1, 8);
            refused("place " + number + " 1;", 1, 6);
            refused("sides " + number + ";", 1, 6);
            refused("rule " + number + ";", 1, 5);
            refused("  " + number + ";", 1, 2);
            refused("place 0 1 " + number, 1, 10);
        }
        refused("place 0 " + "1".repeat(232), 1, 8);
    }

    /** "a NAME that is none of these". */
    private static void names() {
        for (String name : LINES) {
            refusedAtEnd(name + (name.equals("round") ? "" : " "), 2);
            almost(name, "", "");
        }
        for (String kind : KINDS) {
            taken("rule " + kind + ";");
            almost(kind, "rule ", ";");
        }
        for (String line : LINES) {
            if (!line.equals("balls") && !line.equals("wheel")) {
                refused("rule " + line + ";", 2, 5);
            }
        }
        String[] noLines = {"worst", "day", "alike"};
        for (String kind : noLines) {
            refused(kind, 2, 0);
            refused(" " + kind + ";", 2, 1);
            refused("place 0 " + kind + ";", 2, 8);
        }
        refused("q".repeat(240), 1, 0);
    }

    private static void almost(String name, String ahead, String behind) {
        int at = ahead.length();
        String rest = name.substring(1);
        refused(ahead + name.substring(0, name.length() - 1) + behind, 1, at);
        refused(ahead + name + "s" + behind, 1, at);
        refused(ahead + name + name + behind, 1, at);
        refused(ahead + rest + behind, 1, at);
        refused(ahead + Character.toUpperCase(name.charAt(0)) + rest + behind, 1, at);
        refused(ahead + name.charAt(0) + rest.toUpperCase() + behind, 1, at);
        refused(ahead + (char) (name.charAt(0) + 1) + rest + behind, 1, at);
    }

    // ---- promises 4 and 5: FAULTS

    /** "a TOKEN that can not stand there (or the end: the length)". */
    private static void tokensOutOfPlace() {
        String[] whole = {"sides 3;", "strength 1 2;", "place 1 2;", "choice 1 2;", "rule wheel;", "balls 1 2;",
            "wheel 1 1;", "round;"};
        for (String line : whole) {
            taken(line);
            String open = line.substring(0, line.length() - 1);
            String[] parts = open.split(" ");
            for (int kept = 1; kept <= parts.length; kept++) {
                String ahead = String.join(" ", java.util.Arrays.copyOf(parts, kept));
                boolean ended = kept == parts.length;
                refusedAtEnd(ahead, 2);
                refusedAtEnd(ahead + "  ", 2);
                if (!ended) {
                    refused(ahead + " ;", 2, ahead.length() + 1);
                }
                boolean numberDue = !ended && !parts[0].equals("rule");
                refused(ahead + (numberDue ? " round" : " 1"), 2, ahead.length() + 1);
                refused(ahead + " ?", 1, ahead.length() + 1);
                refused(ahead + " rounds", 1, ahead.length() + 1);
                refused(ahead + " 111", 1, ahead.length() + 1);
            }
        }
        refusedAtEnd(" ".repeat(235) + "round", 2);
        taken(" ".repeat(234) + "round;");
        refusedAtEnd("rule day;sides 2;place 0 1", 2);
    }

    /** "SIDES n (2 to 6; ..)". */
    private static void sidesInBounds() {
        for (int n = 0; n <= 99; n++) {
            if (n >= 2 && n <= 6) {
                due(6, "SIDES of sides " + n, told("sides " + n + ";").rule(0), n);
            } else {
                refused("sides " + n + ";", 3, 6);
                refused("sides " + n + " !", 3, 6);
            }
        }
    }

    /** First NUMBERS: 0 to n - 1, for all numbers of SIDES (4 if it is not told). */
    private static void firstNumbersInBounds() {
        for (int n = 2; n <= 6; n++) {
            for (String word : PAIRS) {
                String ahead = (n == 4 ? "" : "sides " + n + ";") + word + " ";
                for (int i = 0; i <= 99; i++) {
                    if (i < n) {
                        taken(ahead + i + " 1;");
                    } else {
                        refused(ahead + i + " !", 3, ahead.length());
                    }
                }
            }
        }
    }

    /** Second NUMBERS: STRENGTHS 1 to 9, worths 0 to 99, balls 0 to 20, a SIDE. */
    private static void secondNumbersInBounds() {
        for (int n = 2; n <= 6; n++) {
            for (int w = 0; w < PAIRS.length; w++) {
                String ahead = "sides " + n + ";" + PAIRS[w] + " 1 ";
                int most = MOST[w] < 0 ? n - 1 : MOST[w];
                for (int v = 0; v <= 99; v++) {
                    if (v >= LEAST[w] && v <= most) {
                        due(6, ahead + v, told(ahead + v + ";").rule(11 + 10 * w), v);
                    } else {
                        refused(ahead + v + ";", 3, ahead.length());
                    }
                }
            }
        }
    }

    /** "sides, rule for the second time, sides behind such as must be behind it (its NAME)". */
    private static void toldTwice() {
        refused("sides 3;sides 3;", 4, 8);
        refused("sides 3;rule day; sides", 4, 18);
        refused("sides 3;sides 7;", 4, 8);
        refused("rule day;rule day;", 4, 9);
        refused("rule day;sides 3;rule ?", 4, 17);
        refused("rule day;round;rule", 4, 15);
        taken("rule day;sides 3;");
        taken("sides 3;rule day;");
        for (String word : PAIRS) {
            String line = word + " 1 1;";
            taken("sides 4;" + line);
            refused(line + "sides 4;", 4, line.length());
            refused(line + "  sides", 4, line.length() + 2);
            refused("rule worst;" + line + "sides 2;", 4, line.length() + 11);
            taken("rule worst;sides 4;" + line);
        }
        taken("sides 4;round;");
        refused("round;sides 4;", 4, 6);
    }

    /** "strength, place, choice, balls, wheel: one that is told already (its first NUMBER)". */
    private static void pairsToldTwice() {
        for (int n = 2; n <= 6; n++) {
            for (String word : PAIRS) {
                for (int i = 0; i < n; i++) {
                    String ahead = "sides " + n + ";" + word + " " + i + " 1;" + word + " ";
                    refused(ahead + i + " 1;", 4, ahead.length());
                    refused(ahead + i + " 99;", 4, ahead.length());
                    refused(ahead + i, 4, ahead.length());
                    refused(ahead + "0" + i + " 1;", 4, ahead.length());
                    taken(ahead + (i + 1) % n + " 1;");
                    refused(ahead + n + " 1;", 3, ahead.length());
                }
            }
        }
        taken("strength 1 1;place 1 1;choice 1 1;balls 1 1;wheel 1 1;");
        refused("place 0 1;round;place 1 1;rule day;place 0 1;", 4, 41);
    }

    /** "round: more than 30 GAMES (its NAME)". */
    private static void roundsInBounds() {
        for (int n = 2; n <= 6; n++) {
            int games = n * (n - 1) / 2;
            String fits = "sides " + n + ";" + "round;".repeat(30 / games);
            due(4, "GAMES of " + fits, told(fits).count(1), 30);
            refused(fits + "round;", 5, fits.length());
            refused(fits + " round", 5, fits.length() + 1);
            refused(fits + "round !", 5, fits.length());
            refused(fits + "place 9 0;round;", 3, fits.length() + 6);
            LosingLeague full = told(fits);
            due(7, "no GAME more", full.game(0, 1), FULL);
            due(4, "GAMES that there were are not counted", tell(full, fits), linesOf(fits));
            due(4, "GAMES that there were are gone", full.count(1), 30);
        }
        taken("round;".repeat(5));
        refused("round;".repeat(6), 5, 30);
    }

    /** "0 with 1, 0 with 2, .., 1 with 2, ..", "all OPEN, behind those that there are". */
    private static void roundsInOrder() {
        for (int n = 2; n <= 6; n++) {
            LosingLeague x = told("sides " + n + ";round;round;");
            int g = 0;
            for (int round = 0; round < 2; round++) {
                for (int one = 0; one < n; one++) {
                    for (int other = one + 1; other < n; other++) {
                        due(4, "first of GAME " + g, x.of(g, 0), one);
                        due(4, "second of GAME " + g, x.of(g, 1), other);
                        due(4, "END of GAME " + g, x.of(g, 2), 2);
                        g++;
                    }
                }
            }
            due(4, "all GAMES", x.count(1), g);
            due(4, "all OPEN", x.count(2), g);
        }
    }

    /** "Behind all: 6 rule balls without any balls, .. (the length)". */
    private static void noBalls() {
        for (int n = 2; n <= 6; n++) {
            String none = "sides " + n + ";";
            for (int i = 0; i < n; i++) {
                none += "balls " + i + " 0;";
            }
            refusedAtEnd(none + "rule balls;", 6);
            refusedAtEnd("rule balls;" + none, 6);
            refusedAtEnd("rule balls;" + none + "   ", 6);
            refused("rule balls;" + none + "round", 2, none.length() + 16);
            refused("rule balls;" + none + "round;?", 1, none.length() + 17);
            for (int k = 0; k < KINDS.length; k++) {
                if (k != 1) {
                    taken(none + "rule " + KINDS[k] + ";");
                }
            }
            taken(none);
            for (int i = 0; i < n; i++) {
                taken("rule balls;" + none.replace("balls " + i + " 0;", "balls " + i + " 1;"));
                // what is not told is one ball
                taken("rule balls;" + none.replace("balls " + i + " 0;", ""));
            }
        }
        taken("rule balls;");
    }

    /** "Behind all: 6 .. rule wheel and a SIDE that is twice in it (the length)". */
    private static void twiceInTheWheel() {
        for (int n = 2; n <= 6; n++) {
            String sides = "sides " + n + ";";
            for (int i = 0; i < n; i++) {
                for (int s = 0; s < n; s++) {
                    String one = sides + "wheel " + i + " " + s + ";";
                    String both = one + "wheel " + s + " " + i + ";";
                    if (i == s) {
                        taken("rule wheel;" + one);
                        continue;
                    }
                    refusedAtEnd("rule wheel;" + one, 6);
                    refusedAtEnd(one + "rule wheel;  ", 6);
                    refused("rule wheel;" + one + "round", 2, one.length() + 16);
                    taken("rule day;" + one);
                    taken(one);
                    taken("rule wheel;" + both);
                    taken(both + "rule wheel;");
                }
            }
        }
        taken("rule wheel;");
        taken("sides 6;rule wheel;wheel 0 5;wheel 1 4;wheel 2 3;wheel 3 2;wheel 4 1;wheel 5 0;");
        refusedAtEnd("sides 6;rule wheel;wheel 0 5;wheel 1 4;wheel 2 3;wheel 3 2;wheel 4 1;wheel 5 1;", 6);
    }

    /** Of several FAULTS the first met as it is read. */
    private static void firstFault() {
        refused("sides 9;?", 3, 6);
        refused("?sides 9;", 1, 0);
        refused("sides sides 9;", 2, 6);
        refused("place 9 999;", 3, 6);
        refused("place 999 9;", 1, 6);
        refused("place 0 1;place 0 999;", 4, 16);
        refused("sides 2;sides 9;", 4, 8);
        refused("rule balls;rule balls;balls 0 0;balls 1 0;balls 2 0;balls 3 0;", 4, 11);
        refused("rule wheel;wheel 0 1;wheel 0 1;", 4, 27);
    }

    // ---- promise 4: what a text tells

    /** "how many lines": none, one, as many as THE TAPE can hold. */
    private static void lines() {
        taken("");
        taken("rule day;");
        String many = "sides 2;" + "round;".repeat(30) + "rule day;balls 0 0;place 0 0;";
        due(4, "33 lines and one", tell(new LosingLeague(), many), 34);
        String whole = "sides 2;" + "round;".repeat(30) + "rule day;balls 0 0;place 0 0;place 1 0;wheel 0 0;" + "   ";
        due(4, "240 bytes", whole.length(), 240);
        due(4, "240 bytes of lines", tell(new LosingLeague(), whole), 36);
    }

    /** "Without a rule: worst. A text that is taken tells all, in place of what there was". */
    private static void tellsAll() {
        for (int n = 2; n <= 6; n++) {
            LosingLeague x = told(BEFORE);
            x.game(0, 1);
            x.ends(0, 0);
            x.sheet(0, 2, 5);
            due(4, "sides alone", tell(x, "sides " + n + ";"), 1);
            StringBuilder all = new StringBuilder(n + " 0");
            for (String each : new String[] {"5", "0", "0", "1", "i"}) {
                all.append(" /");
                for (int i = 0; i < n; i++) {
                    all.append(' ').append(each.equals("i") ? "" + i : each);
                }
            }
            all.append(" games counts ").append(n).append(" 0 0 ").append(n).append(" 0 5 faults 0 0");
            same(4, "what sides " + n + " alone tells", seen(x), all.toString());
        }
        LosingLeague x = told("sides 6;strength 5 9;place 5 9;choice 5 9;balls 5 9;wheel 5 4;");
        tell(x, "sides 2;");
        tell(x, "sides 6;");
        for (int tens = 10; tens <= 50; tens += 10) {
            int[] first = {5, 0, 0, 1, 5};
            due(6, "rule(" + (tens + 5) + ") is not what it was", x.rule(tens + 5), first[tens / 10 - 1]);
        }
    }

    /** "The FAULT of the latest text(); 0." */
    private static void latestFault() {
        LosingLeague x = new LosingLeague();
        due(5, "ahead of any text()", x.fault(), 0);
        x.feed(-1L);
        due(5, "ahead of any text()", x.fault(), 0);
        x.text();
        due(5, "behind a FAULT", x.fault(), 1);
        x.feed(-1L);
        x.end(0);
        x.end(9);
        x.game(0, 9);
        due(5, "still the latest", x.fault(), 1);
        tell(x, "sides 9;");
        due(5, "a later one", x.fault(), 3);
        x.text();
        due(5, "an empty text has none", x.fault(), 0);
    }

    // ---- promise 6

    /** Each what from below all to above all, for each number of SIDES. */
    private static void rulesAsked() {
        for (int n = 2; n <= 6; n++) {
            LosingLeague x = told("sides " + n + ";");
            for (int what = -12; what <= 72; what++) {
                boolean ofOne = what >= 10 && what < 60 && what % 10 < n;
                if (what == 0 || what == 1) {
                    due(6, "rule(" + what + ")", x.rule(what), what == 0 ? n : 0);
                } else if (!ofOne) {
                    due(6, "rule(" + what + ") of " + n, x.rule(what), BAD);
                } else {
                    int[] first = {5, 0, 0, 1, what % 10};
                    due(6, "rule(" + what + ") of " + n, x.rule(what), first[what / 10 - 1]);
                }
            }
            due(6, "rule(MIN)", x.rule(MIN), BAD);
            due(6, "rule(MAX)", x.rule(MAX), BAD);
        }
        for (int k = 0; k < KINDS.length; k++) {
            due(6, "rule(1) of " + KINDS[k], told("rule " + KINDS[k] + ";").rule(1), k);
        }
    }

    public static void main(String[] args) {
        newObject();
        tapeIsFull();
        highestByteFirst();
        ends();
        everyByteAlone();
        everyByteBetween();
        blanks();
        longestTokens();
        figures();
        names();
        tokensOutOfPlace();
        sidesInBounds();
        firstNumbersInBounds();
        secondNumbersInBounds();
        toldTwice();
        pairsToldTwice();
        roundsInBounds();
        roundsInOrder();
        noBalls();
        twiceInTheWheel();
        firstFault();
        lines();
        tellsAll();
        latestFault();
        rulesAsked();
        finish();
    }
}
