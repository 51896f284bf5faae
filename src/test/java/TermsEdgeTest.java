/**
 * The edges that the document's terms name, a method for each sentence: too small, too large, empty, full, one more
 * than there may be, round the end. The number in a method's name is the part of the terms (0: what stands ahead of them).
 */
public final class TermsEdgeTest extends TestKit {
    public static void main(String[] args) throws ReflectiveOperationException {
        runEach(TermsEdgeTest.class);
    }

    /** A table of so many, all of weak 0. */
    private static SevenUnsaid table(int size) {
        return people(new int[size]);
    }

    private static void has(SevenUnsaid x, int number, int want) {
        due("has(" + number + ")", x.has(number), want);
    }

    private static void look(SevenUnsaid x, String when, int what, int want) {
        due("look(" + what + ") " + when, x.look(what), want);
    }

    /** "Quotients go downwards", and so in GET "each time". */
    private static void t0QuotientsGoDownwards() {
        SevenUnsaid x = people(0);
        law(x, "err 1;");
        due("get(3)", x.get(3), 997002);
        due("get(4), once at the end were 996005", x.get(4), 996004);
    }

    /** "STATE of draws (an int, 0 at first)". */
    private static void t0StateIsNoughtAtFirst() {
        look(new SevenUnsaid(), "at first", 10, 0);
        due("what it was", new SevenUnsaid().state(7), 0);
    }

    /** "it becomes 1664525 times itself + 1013904223 (ints, which wrap)". */
    private static void t0StateWraps() {
        int[] states = {HIGH, LOW, -1, 1, 653637408, 634785765};
        for (int s : states) {
            SevenUnsaid x = people(0);
            law(x, "err 1;");
            x.state(s);
            x.play(1);
            look(x, "from " + s, 10, (int) (1664525L * s + 1013904223L));
        }
    }

    /** "its highest 24 bits (without sign) modulo m": a STATE below 0 is as high as it gets. */
    private static void t0DrawIsWithoutSign() {
        // 1000 becomes 2678429223, an int below 0; by 256 it is 10462614.
        draws(1000, 614);
        // To -1, all bits: 16777215; to the lowest int, its highest bit alone: 8388608; to 0.
        draws(653637408, 215);
        draws(-1512697883, 608);
        draws(634785765, 0);
    }

    private static void draws(int state, int draw) {
        due("from " + state + " not below " + draw, errsAt(state, draw), 0);
        due("from " + state + " below " + (draw + 1), errsAt(state, draw + 1), 1);
    }

    private static int errsAt(int state, int odds) {
        SevenUnsaid x = people(0);
        law(x, "err " + odds + ";");
        x.state(state);
        return x.play(1);
    }

    /** "PEOPLE 0 .. 7 as they come, each on the next SEAT": so, too, when others have changed theirs. */
    private static void t1EachOnTheNextSeat() {
        SevenUnsaid x = new SevenUnsaid();
        for (int k = 0; k < 8; k++) {
            due("the number of " + k, x.person(k), k);
            due("the seat of " + k, x.of(k, 2), k);
            if (k > 0) {
                x.change(0, k);
                due("0 is there then", x.of(0, 2), k);
            }
        }
        int[] seats = {7, 0, 1, 2, 3, 4, 5, 6};
        for (int k = 0; k < 8; k++) {
            due("the seat of " + k + " at last", x.of(k, 2), seats[k]);
        }
    }

    /** "WEAK 0 .. 99". */
    private static void t1WeakFromNoughtTo99() {
        SevenUnsaid x = people(0, 99);
        due("the least", x.of(0, 0), 0);
        due("the greatest", x.of(1, 0), 99);
        due("person(-1)", x.person(-1), NONE);
        due("person(100)", x.person(100), NONE);
        due("set 99", x.set(2, 0, 99), true);
        due("set 0", x.set(2, 1, 0), true);
        due("set -1", x.set(2, 0, -1), false);
        due("set 100", x.set(2, 1, 100), false);
        due("the least then", x.of(1, 0), 0);
        due("the greatest then", x.of(0, 0), 99);
    }

    /** "GLASSES 0 .. 9999 (0 at first)". */
    private static void t1GlassesFromNoughtTo9999() {
        SevenUnsaid x = people(5);
        due("at first", x.of(0, 1), 0);
        due("set 9999", x.set(3, 0, 9999), true);
        due("set 10000", x.set(3, 0, 10000), false);
        due("the greatest", x.of(0, 1), 9999);
        due("set 0", x.set(3, 0, 0), true);
        due("set -1", x.set(3, 0, -1), false);
        due("the least", x.of(0, 1), 0);
    }

    /** "SEATS 0 .. n - 1, n as many as there are". */
    private static void t1SeatsAsManyAsPeople() {
        for (int n = 0; n <= 8; n++) {
            SevenUnsaid x = table(n);
            due("the last seat of " + n, x.set(5, 0, n - 1), n > 0);
            due("none behind the last of " + n, x.set(5, 0, n), false);
            look(x, "with " + n, 3, Math.max(0, n - 1));
            due("words of the last", x.words(n - 1, 5), n > 0 ? 0 : NONE);
            due("words of one more", x.words(n, 5), NONE);
        }
    }

    /** "RULES 0 .. 5 as they come". */
    private static void t1SixRules() {
        SevenUnsaid x = new SevenUnsaid();
        for (int k = 0; k < 6; k++) {
            due("rule " + k, x.rule(0, k, 0), k);
        }
        due("a seventh", x.rule(0, 6, 0), NONE);
        has(x, 543, 1 << 5 | 1 << 4 | 1 << 3);
        has(x, 6, 0);
    }

    /** "a SORT 0 (a FIGURE 0 .. 9)". */
    private static void t1FigureFromNoughtTo9() {
        SevenUnsaid x = new SevenUnsaid();
        due("-1", x.rule(0, -1, 0), NONE);
        due("10", x.rule(0, 10, 0), NONE);
        due("0", x.rule(0, 0, 0), 0);
        due("9", x.rule(0, 9, 0), 1);
        has(x, 90, 3);
    }

    /** "or 1 (a MULTIPLE of 2 .. 99)". */
    private static void t1MultipleFrom2To99() {
        SevenUnsaid x = new SevenUnsaid();
        due("1", x.rule(1, 1, 0), NONE);
        due("0", x.rule(1, 0, 0), NONE);
        due("100", x.rule(1, 100, 0), NONE);
        due("2", x.rule(1, 2, 0), 0);
        due("99", x.rule(1, 99, 0), 1);
        has(x, 198, 3);
        has(x, 100, 1);
        has(x, 99, 2);
        has(x, 1, 0);
    }

    /** "a SORT 0 .. or 1", "a TURN 0 (none), 1 .. or 2". */
    private static void t1SortsAndTurns() {
        SevenUnsaid x = new SevenUnsaid();
        due("sort -1", x.rule(-1, 5, 0), NONE);
        due("sort 2", x.rule(2, 5, 0), NONE);
        due("turn -1 of a figure", x.rule(0, 5, -1), NONE);
        due("turn 3 of a figure", x.rule(0, 5, 3), NONE);
        due("turn -1 of a multiple", x.rule(1, 5, -1), NONE);
        due("turn 3 of a multiple", x.rule(1, 5, 3), NONE);
        for (int k = 0; k < 6; k++) {
            due("sort " + k / 3 + ", turn " + k % 3, x.rule(k / 3, 5, k % 3), k);
        }
    }

    /** "ON (at first) or not. A number HAS a RULE that is ON". */
    private static void t1OffIsHadByNone() {
        SevenUnsaid x = table(3);
        x.rule(0, 1, 1);
        x.rule(1, 1 + 1, 2);
        due("on at first", x.told(0, 3) * 10 + x.told(1, 3), 11);
        x.set(1, 0, 0);
        x.set(1, 1, 0);
        has(x, 12, 0);
        due("all are plain", x.plain(1, 20, 0), 20);
        x.play(2);
        look(x, "no turn, no skip", 3, 2);
        look(x, "the way", 4, 1);
        look(x, "turned", 5, 0);
        x.set(1, 0, 1);
        has(x, 12, 1);
    }

    /** "if that FIGURE is in it (as it is written)": no nought stands ahead of a number. */
    private static void t1FigureAsItIsWritten() {
        SevenUnsaid x = new SevenUnsaid();
        x.rule(0, 0, 0);
        x.rule(0, 1, 0);
        x.rule(0, 9, 0);
        int[][] want = {{1, 2}, {9, 4}, {10, 3}, {99, 4}, {100, 3}, {101, 3}, {222, 0}, {909, 5}, {999, 4}, {1000, 3},
            {1222, 2}, {2122, 2}, {2212, 2}, {2221, 2}, {2022, 1}, {2202, 1}, {2220, 1}, {9222, 4}, {9999, 4}};
        for (int[] w : want) {
            has(x, w[0], w[1]);
        }
    }

    /** "A WORD: a number that HAS one at least; else it is plain". */
    private static void t1WordHasOneAtLeast() {
        SevenUnsaid x = new SevenUnsaid();
        x.rule(0, 3, 0);
        x.rule(1, 3, 0);
        due("none", x.plain(4, 4, 0), 1);
        due("one", x.plain(6, 6, 0), 0);
        due("two", x.plain(3, 3, 0), 0);
    }

    /** "NEXT 1 .. 9999: (1 at first); AT (0 at first); the WAY (1 at first); TURNED (0 at first)", and so on. */
    private static void t1AtFirst() {
        int[] want = {0, 0, 1, 0, 1, 0, 0, 0, 0, 0, 0, 0, 0};
        SevenUnsaid x = new SevenUnsaid();
        for (int k = 0; k < want.length; k++) {
            look(x, "of a new one", k, want[k]);
        }
    }

    /** "TURNED: 1, if the number said last turned the round (an odd number of times), else 0". */
    private static void t1TurnedAnOddNumberOfTimes() {
        for (int rules = 0; rules <= 6; rules++) {
            SevenUnsaid x = table(3);
            for (int k = 0; k < rules; k++) {
                x.rule(1, 2, 1);
            }
            x.play(2);
            look(x, "by " + rules, 5, rules % 2);
            look(x, "by " + rules, 4, rules % 2 == 1 ? -1 : 1);
            x.play(1);
            look(x, "3 is plain", 5, 0);
            look(x, "the way stays by it", 4, rules % 2 == 1 ? -1 : 1);
        }
    }

    /** "PACE 0 .. 99 (0 at first)". */
    private static void t1PaceFromNoughtTo99() {
        SevenUnsaid x = new SevenUnsaid();
        look(x, "at first", 6, 0);
        due("99", x.set(0, 0, 99), true);
        due("100", x.set(0, 0, 100), false);
        look(x, "then", 6, 99);
        due("0", x.set(0, 0, 0), true);
        due("-1", x.set(0, 0, -1), false);
        look(x, "at last", 6, 0);
    }

    /** "RECORD: the greatest number that was said (0 at first)": an error is not said. */
    private static void t1RecordIsTheGreatestSaid() {
        SevenUnsaid x = people(0);
        law(x, "err 1000 when number = 4 or number = 1 and glasses = 0;");
        x.play(1);
        look(x, "behind an error on 1", 7, 0);
        x.play(4);
        look(x, "behind an error on 4", 7, 3);
        x.play(2);
        look(x, "behind 1, 2", 7, 3);
        x.set(4, 0, 9999);
        look(x, "9999 told, not said", 7, 3);
    }

    /** "SAID: how many were": not one that somebody erred on. */
    private static void t1SaidIsNotErred() {
        SevenUnsaid x = people(0);
        law(x, "err 1000 when number = 4;");
        due("errors", x.play(200), 50);
        look(x, "three of four", 8, 150);
    }

    /** "AT goes on by the WAY, one SEAT and those that are skipped (round the table)": as often as it must, both ways. */
    private static void t1RoundTheTable() {
        for (int n = 1; n <= 8; n++) {
            for (int skips = 0; skips <= 6; skips++) {
                SevenUnsaid x = table(n);
                for (int k = 0; k < skips; k++) {
                    x.rule(1, 2, 2);
                }
                x.set(4, 0, 2);
                due("2 of " + n + ", skipping " + skips, x.play(1), 0);
                look(x, "of " + n + ", skipping " + skips, 3, (1 + skips) % n);
            }
            for (int skips = 0; skips <= 5; skips++) {
                SevenUnsaid x = table(n);
                x.rule(1, 2, 1);
                for (int k = 0; k < skips; k++) {
                    x.rule(1, 2, 2);
                }
                x.set(4, 0, 2);
                due("2 of " + n + ", back, skipping " + skips, x.play(1), 0);
                look(x, "of " + n + ", back, skipping " + skips, 3, (8 * n - 1 - skips) % n);
            }
        }
    }

    /** "NEXT is one more (9999: then 1)". */
    private static void t1Behind9999Comes1() {
        SevenUnsaid x = table(3);
        x.rule(1, 99, 1);
        x.set(4, 0, 9998);
        x.play(1);
        look(x, "behind 9998", 2, 9999);
        x.play(1);
        look(x, "behind 9999", 2, 1);
        look(x, "9999 turned", 4, -1);
        look(x, "9999 turned", 5, 1);
        look(x, "at behind it", 3, 0);
        look(x, "record", 7, 9999);
        look(x, "said", 8, 2);
        x.play(1);
        look(x, "behind 1", 2, 2);
        look(x, "it goes on the other way", 3, 2);
        look(x, "the record stays", 7, 9999);
    }

    /** "THE LAW is a TEXT (empty at first)": "none: 0". */
    private static void t2LawIsEmptyAtFirst() {
        SevenUnsaid x = people(50);
        look(x, "no lines", 11, 0);
        due("odds", x.of(0, 3), 0);
        due("play", x.play(200), 0);
        look(x, "nothing is drawn", 10, 0);
    }

    /** "{err E [when B] ;}": none at all is a law, too. */
    private static void t2NoLineIsALaw() {
        String[] texts = {"", " ", "\n", " \n ".repeat(20)};
        for (String text : texts) {
            SevenUnsaid x = people(50);
            law(x, "err 5;");
            due("lines", law(x, text), 0);
            due("fault", x.fault(0), 0);
            due("its place", x.fault(1), NONE);
            due("odds", x.of(0, 3), 0);
            look(x, "lines", 11, 0);
        }
    }

    /** "letters as many as stand together are KEYWORDS (those told here) or none". */
    private static void t2LettersTogether() {
        String[] words = {"err", "when", "or", "and", "not", "number", "words", "turned", "weak", "glasses", "run", "pace"};
        for (String word : words) {
            String shorter = word.substring(0, word.length() - 1);
            fault("err 5; " + shorter + " 5;", 1, 7);
            fault("err " + shorter + ";", 1, 4);
            fault("err " + word + "s;", 1, 4);
            fault("err " + word.toUpperCase() + ";", 1, 4);
        }
        fault("errerr 5;", 1, 0);
        fault("err weakweak;", 1, 4);
        fault("err 5 when 1=1 andnot 1=2;", 1, 15);
        due("digits end a word", odds("err7when8=8and9=9;"), 7);
    }

    /** The same: from a to z and from A to Z, no sign beside them. */
    private static void t2LettersFromAToZ() {
        String letters = "azAZ";
        for (int k = 0; k < letters.length(); k++) {
            fault("err" + letters.charAt(k) + " 5;", 1, 0);
            fault("err 5 when 1=1 or" + letters.charAt(k) + " 1=1;", 1, 15);
        }
        String beside = "@[`{" + (char) 0 + (char) 127 + (char) 128 + (char) 225 + (char) 255;
        for (int k = 0; k < beside.length(); k++) {
            fault("err" + beside.charAt(k) + " 5;", 1, 3);
            fault("err 5 when 1=1 or" + beside.charAt(k) + " 1=1;", 1, 17);
        }
        fault("err 5:;", 1, 5);
        fault("err 5,;", 1, 5);
    }

    /** "digits as many as stand together NUMBERS of 1 to 4 digits or none". */
    private static void t2NumbersOfOneToFourDigits() {
        due("one", odds("err 7;"), 7);
        due("nought", odds("err 0;"), 0);
        due("four", odds("err 5 when 9999 > 9998;"), 5);
        due("four with noughts ahead", odds("err 0007;"), 7);
        due("noughts alone", odds("err 5 + 0000;"), 5);
        due("the greatest, whole", odds("err 9999 - 9000;"), 999);
        fault("err 10000;", 1, 4);
        fault("err 00007;", 1, 4);
        fault("err 5+00000;", 1, 6);
        fault("err 5/00001;", 1, 6);
        fault("err 5*99999999999999999999;", 1, 6);
        fault("err 5 when 4294967297 = 1;", 1, 11);
    }

    /** "Blanks (32, 10) between": no other sign is one. */
    private static void t2Blanks() {
        due("as many as one likes", odds("\n \nerr \n 7 \n + \n 1 \n ; \n"), 8);
        due("none", odds("err 7+1;"), 8);
        for (int sign = 0; sign < 256; sign++) {
            boolean stands = sign == 32 || sign == 10 || sign == '+' || sign == '-' || sign == '*' || sign == '/'
                    || sign == ';' || sign == '<' || sign == '=' || sign == '>' || sign == '(' || sign == ')'
                    || sign >= '0' && sign <= '9';
            if (!stands) {
                fault("err 7 " + (char) sign + ";", 1, 6);
                fault((char) sign + "err 7;", 1, 0);
            }
        }
        fault("err 1 2;", 1, 6);
        fault("er r 7;", 1, 0);
    }

    /** "Ints, which wrap". */
    private static void t2IntsWrap() {
        due("a product", odds("err 5 when 9999*9999*9999 < 0;"), 5);
        // 2099580021 and 99980001 are together above the greatest int.
        due("no wrap yet", odds("err 5 when 9999*9999*21 > 0;"), 5);
        due("a sum", odds("err 5 when 9999*9999*21 + 9999*9999 < 0;"), 5);
        due("a difference", odds("err 5 when 0 - 9999*9999*21 - 9999*9999 > 0;"), 5);
        due("odds below 0 by it", odds("err 9999*9999*21 + 9999*9999;"), 0);
        due("odds above 0 by it", odds("err 0 - 9999*9999*21 - 9999*9999;"), 1000);
        due("round to 0", odds("err 7 + 256*256*256*256;"), 7);
        due("the lowest int", odds("err 5 when 256*256*256*128 < 0-9999*9999;"), 5);
    }

    /** "/ goes towards 0": of what is below 0, too. */
    private static void t2PartsGoTowardsNought() {
        due("above 0", odds("err 7/2;"), 3);
        due("to 0", odds("err 5 + 6/7;"), 5);
        // 9999*9999*9999 is -1027349969 as an int, an odd one.
        due("below 0", odds("err 5 when 9999*9999*9999/2*2 = 9999*9999*9999 + 1;"), 5);
        due("the lowest int by 1", odds("err 5 when 256*256*256*128/1 = 256*256*256*128;"), 5);
        due("by the greatest number", odds("err 5 when 9999/9999 = 1;"), 5);
    }

    /** "FAULTS, the first by its place". */
    private static void t2TheFirstFaultByItsPlace() {
        fault("err 5/0 x;", 2, 6);
        fault("err x 5/0;", 1, 4);
        fault("err 5/0;" + "err 1;".repeat(16), 2, 6);
        fault("err 1;".repeat(16) + "err 5/0;", 3, 96);
        fault("err 5 when " + "(".repeat(9) + "1/0", 3, 19);
        fault("err 5/0 when " + "(".repeat(9), 2, 6);
    }

    /** "at one place the least": what can't stand there is no ninth one and no seventeenth. */
    private static void t2AtOnePlaceTheLeast() {
        fault("err 5 when " + "(".repeat(8) + "1 = not", 1, 23);
        fault("err 5 when " + "(".repeat(8) + "1 = (", 1, 23);
        fault("err 5 when " + "not ".repeat(8) + "1 (", 1, 45);
        fault("err 1;".repeat(15) + "err 1 err 1;", 1, 96);
        fault("err 1;".repeat(15) + "err err", 1, 94);
        fault("err 1;".repeat(16) + ";", 1, 96);
        fault("err 5/00000;", 1, 6);
        fault("err 0 0;", 1, 6);
    }

    /** "(the end: the text's length)": behind blanks, too, and in a full tape. */
    private static void t2TheEndIsTheTextsLength() {
        String[] cut = {"err", "err ", "err 5", "err 5 \n\n", "err 5+", "err 5*", "err 5/", "err 5 when", "err 5 when 5",
            "err 5 when 5 <", "err 5 when 5 < 6", "err 5 when (", "err 5 when (5 < 6", "err 5 when (5 < 6)",
            "err 5 when not", "err 5 when 5 < 6 and", "err 5 when 5 < 6 or ", "err 5;err", "err 5;\nerr 6\n"};
        for (String text : cut) {
            fault(text, 1, text.length());
        }
        fault("err" + " ".repeat(397), 1, 400);
        fault("err 1" + "+1".repeat(197) + " ", 1, 400);
    }

    /** "1 what can't stand there": each sign and keyword, where an E begins and where it may end. */
    private static void t2WhatCannotStandThere() {
        String[] notAhead = {";", "+", "-", "*", "/", "(", ")", "<", "=", ">", "err", "when", "or", "and", "not"};
        for (String token : notAhead) {
            fault("err " + token, 1, 4);
            fault("err 5+" + token, 1, 6);
            fault("err 5*" + token, 1, 6);
            fault("err 5/" + token, 1, 6);
            fault("err 5 when 5=" + token, 1, 13);
            if (!token.equals("(") && !token.equals("not")) {
                fault("err 5 when " + token, 1, 11);
                fault("err 5 when (" + token, 1, 12);
                fault("err 5 when not " + token, 1, 15);
                fault("err 5 when 5=5 or " + token, 1, 18);
                fault("err 5 when 5=5 and " + token, 1, 19);
            }
            if (!token.equals("err")) {
                fault(token, 1, 0);
                fault("err 5;" + token, 1, 6);
            }
        }
        String[] units = {"7", "number", "words", "turned", "weak", "glasses", "run", "pace"};
        for (String unit : units) {
            fault(unit, 1, 0);
            fault("err 5 " + unit, 1, 6);
            fault("err 5 when 5 " + unit, 1, 13);
            fault("err 5 when 5=5 " + unit, 1, 15);
            fault("err 5 when (5=5)" + unit, 1, 16);
            if (!unit.equals("7")) {
                fault("err 5/" + unit, 1, 6);
            }
        }
        String[] notBehindOdds = {"(", ")", "<", "=", ">", "err", "or", "and", "not"};
        for (String token : notBehindOdds) {
            fault("err 5 " + token, 1, 6);
        }
        String[] notBehindLeft = {"(", ")", ";", "err", "when", "or", "and", "not"};
        for (String token : notBehindLeft) {
            fault("err 5 when 5 " + token, 1, 13);
        }
        String[] notBehindRight = {"(", ")", "<", "=", ">", "err", "when", "not"};
        for (String token : notBehindRight) {
            fault("err 5 when 5=5 " + token, 1, 15);
        }
        String[] notBehindBracket = {"(", ")", "<", "=", ">", "err", "when", "not", "+", "-", "*", "/"};
        for (String token : notBehindBracket) {
            fault("err 5 when (5=5)" + token, 1, 16);
        }
        fault("err 5 when (5=5;", 1, 15);
        fault("err 5 when ((5=5);", 1, 17);
    }

    /** "2 (at the NUMBER) a part by 0". */
    private static void t2PartByNought() {
        fault("err 5/0;", 2, 6);
        fault("err 5/ \n00;", 2, 8);
        fault("err 5/0000;", 2, 6);
        fault("err 5/1/0;", 2, 8);
        fault("err 5*5/0", 2, 8);
        fault("err 5 when 5/0", 2, 13);
        fault("err 5 when 5=5/0", 2, 15);
        fault("err 5;err 5/0;", 2, 12);
        due("by 1", odds("err 5/1;"), 5);
        due("by 10", odds("err 50/10;"), 5);
        due("times 0", odds("err 5+5*0;"), 5);
        due("0 by 5", odds("err 5+0/5;"), 5);
    }

    /** "3 (at its KEYWORD) the 17th line": sixteen may be. */
    private static void t2TheSeventeenthLine() {
        SevenUnsaid x = people(0);
        due("sixteen", law(x, "err 1 when 1=2;".repeat(15) + "err 9;"), 16);
        look(x, "lines", 11, 16);
        due("the sixteenth counts", x.of(0, 3), 9);
        fault("err 1;".repeat(17), 3, 96);
        fault("err 1;".repeat(16) + " \n err", 3, 99);
        fault("err 1;".repeat(16) + "errs", 1, 96);
        due("sixteen, blanks behind", law(x, "err 1;".repeat(16) + "\n "), 16);
    }

    /** "(at it) the 9th ( or not that is open": eight may be, each on its own and both mixed. */
    private static void t2TheNinthThatIsOpen() {
        due("eight nots", odds("err 5 when " + "not ".repeat(8) + "1=1;"), 5);
        due("eight brackets", odds("err 5 when " + "(".repeat(8) + "1=1" + ")".repeat(8) + ";"), 5);
        due("four of each", odds("err 5 when " + "not (".repeat(4) + "1=1" + ")".repeat(4) + ";"), 5);
        fault("err 5 when " + "not ".repeat(9) + "1=1;", 3, 43);
        fault("err 5 when " + "(".repeat(9) + "1=1" + ")".repeat(9) + ";", 3, 19);
        fault("err 5 when " + "not (".repeat(4) + "not 1=1" + ")".repeat(4) + ";", 3, 31);
        fault("err 5 when " + "(not ".repeat(4) + "(1=1)" + ")".repeat(4) + ";", 3, 31);
    }

    /** The same: one that is closed, or whose C is over, is open no more. */
    private static void t2ClosedOnesAreNotOpen() {
        due("nine brackets in a row", odds("err 5 when " + "(1=1) and ".repeat(8) + "(1=1);"), 5);
        due("nine nots in a row", odds("err 5 when " + "not 1=2 and ".repeat(8) + "not 1=2;"), 5);
        due("nine nots of brackets", odds("err 5 when " + "not (1=1) or ".repeat(9) + "1=1;"), 5);
        due("two in seven", odds("err 5 when " + "(".repeat(7) + "(1=1) and not 1=2 and (1=1)" + ")".repeat(7) + ";"), 5);
        due("eight in each line", odds(("err 5 when " + "not ".repeat(7) + "(1=1);").repeat(2) + "err 6;"), 6);
        fault("err 5 when " + "(".repeat(7) + "(1=1) and not not", 3, 32);
        fault("err 5 when " + "not ".repeat(7) + "(1=1) and " + "not ".repeat(9), 3, 81);
        fault("err 5 when not (" + "(".repeat(6) + "1=1) and ((", 3, 32);
        fault("err 5 when (" + "not ".repeat(7) + "1=1 or " + "not ".repeat(8), 3, 75);
    }

    /** "held to 0 .. 1000". */
    private static void t2OddsAreHeld() {
        due("1000", odds("err 1000;"), 1000);
        due("1001", odds("err 1001;"), 1000);
        due("999", odds("err 999;"), 999);
        due("0", odds("err 0;"), 0);
        due("-1", odds("err 0-1;"), 0);
        due("1", odds("err 1;"), 1);
        due("the highest int", odds("err 256*256*256*128-1;"), 1000);
        due("the lowest int", odds("err 256*256*256*128;"), 0);
    }

    /** "E of the first line whose B is so, or that has none (none: 0)". */
    private static void t2TheFirstLineThatIsSo() {
        due("none", odds("err 5 when 1=2; err 6 when 1=2;"), 0);
        due("the first", odds("err 5 when 1=1; err 6;"), 5);
        due("one without", odds("err 5; err 6 when 1=1;"), 5);
        due("the second", odds("err 5 when 1=2; err 6 when 1=1; err 7;"), 6);
        due("the last", odds("err 5 when 1=2; err 6 when 1=2; err 7;"), 7);
        due("held, not passed over", odds("err 0-5 when 1=1; err 7;"), 0);
    }

    /** "C = E (< | = | >) E": of two that are alike, or one apart. */
    private static void t2OneLessAlikeOneMore() {
        String[] signs = {"<", "=", ">"};
        for (int k = 0; k < 3; k++) {
            for (int left = 16; left <= 18; left++) {
                due(left + signs[k] + "17", odds("err 5 when " + left + signs[k] + "number;"), left == 16 + k ? 5 : 0);
            }
        }
        due("the lowest int is less", odds("err 5 when 256*256*256*128 < 256*256*256*128 - 1;"), 5);
        due("the highest int is more", odds("err 5 when 256*256*256*128 - 1 > 256*256*256*128;"), 5);
    }

    /** "pace", "weak", "glasses": the least and the greatest. */
    private static void t2TheLeastAndTheGreatestFacts() {
        SevenUnsaid x = people(0);
        law(x, "err pace + weak + glasses - 9000;");
        due("the least", x.of(0, 3), 0);
        x.set(0, 0, 99);
        x.set(2, 0, 99);
        x.set(3, 0, 9000);
        due("pace and weak", x.of(0, 3), 198);
        x.set(0, 0, 0);
        x.set(2, 0, 0);
        x.set(3, 0, 9999);
        due("glasses", x.of(0, 3), 999);
        law(x, "err number - 9000;");
        x.set(4, 0, 9999);
        due("number", x.of(0, 3), 999);
    }

    /** "words: how many RULES it HAS": none to six. */
    private static void t2WordsFromNoughtToSix() {
        SevenUnsaid x = people(0);
        law(x, "err words;");
        x.set(4, 0, 2);
        for (int k = 0; k <= 6; k++) {
            due("rules " + k, x.of(0, 3), k);
            x.rule(1, 2, 0);
        }
    }

    /** "run: (0, if it is plain; those below 1 are none)". */
    private static void t2RunsEndBelow1() {
        SevenUnsaid x = people(0);
        law(x, "err run;");
        due("plain", x.of(0, 3), 0);
        x.rule(1, 2, 0);
        x.rule(1, 3, 0);
        due("1 is plain", x.of(0, 3), 0);
        x.set(4, 0, 4);
        due("2, 3, 4", x.of(0, 3), 3);
        x.set(4, 0, 5);
        due("5 is plain", x.of(0, 3), 0);
        x.rule(0, 1, 0);
        x.set(4, 0, 1);
        due("1 alone", x.of(0, 3), 1);
        x.set(4, 0, 4);
        due("1 to 4", x.of(0, 3), 4);
    }

    /** The same in thought: from NEXT on, and from the start, where nothing is ahead of 1. */
    private static void t2RunsInThought() {
        SevenUnsaid x = people(0, 0);
        x.rule(1, 2, 0);
        x.rule(1, 3, 0);
        law(x, "err run*100;");
        // 2, 3, 4 are words one behind another, 5 is plain, 6 is one alone.
        due("to 4", x.get(4), 504000);
        due("to 6", x.get(6), 453600);
        due("the hardest", x.hardest(6), 4);
        due("seating", x.seating(6, 0), 453600);
        x.set(4, 0, 4);
        due("4 alone", x.get(4), 700000);
        due("seating is from the start", x.seating(4, 0), 504000);
        x.rule(0, 1, 0);
        due("4, as 1 is a word", x.get(4), 600000);
        due("1 to 4 from the start", x.seating(4, 0), 302400);
        due("4 and 5", x.third(0, 5, 0, 5), 300000);
    }

    /** The same, of a number that comes behind 9999: what is below 1 is none, whatever was said. */
    private static void t2RunsDoNotGoOnOver9999() {
        SevenUnsaid x = people(0);
        x.rule(0, 9, 0);
        x.rule(0, 1, 0);
        x.rule(0, 2, 0);
        law(x, "err 1000 when run > number; err 1000 when number = 9999 and run < 1000;");
        x.set(4, 0, 9998);
        due("errors", x.play(4), 0);
        look(x, "next", 2, 3);
        SevenUnsaid y = people(0);
        y.rule(0, 1, 0);
        y.rule(0, 2, 0);
        y.rule(0, 3, 0);
        law(y, "err 1000 when run > 2;");
        due("each third one, as a run begins anew behind an error", y.play(9), 3);
    }

    /** The longest run that can be: all of 1 .. 9999. */
    private static void t2TheLongestRun() {
        SevenUnsaid x = people(0);
        law(x, "err run;");
        x.rule(1, 2, 0);
        int[] figures = {1, 3, 5, 7, 9};
        for (int f : figures) {
            x.rule(0, f, 0);
        }
        x.set(4, 0, 9999);
        due("odds of 9999", x.of(0, 3), 1000);
        law(x, "err run - 9000;");
        due("of 9999", x.of(0, 3), 999);
    }

    /** "if ODDS of NEXT .. are above 0, a DRAW of 1000": with odds of 0 there is none. */
    private static void t2NoDrawWithoutOdds() {
        SevenUnsaid x = people(0);
        law(x, "err 0-1 when number = 1; err 0;");
        x.play(5);
        look(x, "no draw", 10, 0);
        law(x, "err 1;");
        x.play(1);
        look(x, "one draw", 10, 1013904223);
    }

    /** "below ODDS he ERRS": the least odds, the greatest ones, and a draw that is as great as they are. */
    private static void t2BelowOdds() {
        // From 457 the draw is 0, from 1188 it is 999, from 0 it is 563.
        draws(457, 0);
        draws(0, 563);
        due("999, odds 999", errsAt(1188, 999), 0);
        due("999, odds 1000", errsAt(1188, 1000), 1);
    }

    /** "his GLASSES are one more (9999 at most)". */
    private static void t2GlassesAreNoMoreThan9999() {
        SevenUnsaid x = people(0, 0);
        law(x, "err 1000;");
        x.set(3, 0, 9998);
        x.set(3, 1, 9999);
        x.play(1);
        due("9999", x.of(0, 1), 9999);
        due("of all", x.book(0, 3), 19998);
        due("he erred again", x.play(1), 1);
        due("9999 still", x.of(0, 1), 9999);
        due("of all still", x.book(1, 3), 19998);
        x.undo();
        due("undone, 9999 it was", x.of(0, 1), 9999);
        x.undo();
        due("undone, 9998 it was", x.of(0, 1), 9998);
    }

    /** "GLASSES of all then, added": of one alone, of eight, 9999 each. */
    private static void t2GlassesOfAll() {
        for (int n = 1; n <= 8; n++) {
            SevenUnsaid x = table(n);
            law(x, "err 1000;");
            for (int k = 0; k < n; k++) {
                x.set(3, k, 1000 + k);
            }
            x.play(1);
            due("of " + n, x.book(0, 3), n * 1000 + n * (n - 1) / 2 + 1);
            for (int k = 0; k < n; k++) {
                x.set(3, k, 9999);
            }
            x.play(1);
            due("the most of " + n, x.book(1, 3), n * 9999);
        }
    }

    /** "THE BOOK (100 lines; no more then)". */
    private static void t2TheBookIsFull() {
        SevenUnsaid x = people(0, 0);
        law(x, "err 1000;");
        due("99", x.play(99), 99);
        look(x, "lines", 9, 99);
        due("no line 99 yet", x.book(99, 0), NONE);
        due("100", x.play(1), 1);
        look(x, "lines", 9, 100);
        due("line 99", x.book(99, 3), 100);
        x.set(5, 0, 1);
        due("101", x.play(2), 2);
        look(x, "lines", 9, 100);
        due("line 99 stays", x.book(99, 3), 100);
        due("its person stays", x.book(99, 1), 0);
        due("line 0 stays", x.book(0, 3), 1);
        due("no line 100", x.book(100, 3), NONE);
        due("he drank still", x.of(1, 1), 2);
        due("no more behind", x.behind(1, 0), 0);
        x.undo();
        look(x, "undone, none was written", 9, 100);
        due("undone, a glass less", x.of(1, 1), 1);
    }

    /** "who said the number ahead of it (the last one that was said or erred on; NONE at first)". */
    private static void t2NobodyIsAheadAtFirst() {
        SevenUnsaid x = table(3);
        law(x, "err 1000;");
        x.play(1);
        due("nobody", x.book(0, 2), NONE);
        x.set(5, 0, 2);
        x.play(1);
        due("who erred", x.book(1, 2), 0);
        law(x, "");
        x.play(1);
        law(x, "err 1000;");
        x.play(1);
        due("who said it", x.book(2, 2), 2);
        x.play(1);
        due("he himself", x.book(3, 2), x.book(3, 1));
    }

    /** "NEXT is 1, the WAY 1, TURNED 0, AT stays". */
    private static void t2AnErrorBeginsAgain() {
        SevenUnsaid x = table(4);
        x.rule(1, 3, 1);
        law(x, "err 1000 when number = 4;");
        x.play(3);
        look(x, "turned", 5, 1);
        look(x, "the way", 4, -1);
        look(x, "at", 3, 1);
        due("an error", x.play(1), 1);
        look(x, "next", 2, 1);
        look(x, "the way", 4, 1);
        look(x, "turned", 5, 0);
        look(x, "at", 3, 1);
        x.play(1);
        look(x, "it goes on from him", 3, 2);
        SevenUnsaid y = table(4);
        law(y, "err 1000 when number = 9999;");
        y.set(4, 0, 9999);
        due("an error on 9999", y.play(1), 1);
        look(y, "next", 2, 1);
        look(y, "record", 7, 0);
    }
}
