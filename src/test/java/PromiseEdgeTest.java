import java.util.function.Supplier;
import java.util.function.ToIntFunction;

/**
 * The edges that the promises name, and those of what is only thought, undone or kept as an image: a method for each
 * sentence. The number in a method's name is the promise's. A refused call is looked at whole: an object on which it
 * was made tells just what its twin without it tells, of its tape, of what can be undone and of its image, too.
 */
public final class PromiseEdgeTest extends TestKit {
    public static void main(String[] args) throws ReflectiveOperationException {
        runEach(PromiseEdgeTest.class);
    }

    /** Three people, rules that turn, skip and are off, an error before the image and one behind it, a tape of six. */
    private static SevenUnsaid busy() {
        SevenUnsaid x = people(10, 20, 30);
        x.rule(1, 3, 1);
        x.rule(0, 5, 2);
        x.rule(1, 2, 0);
        x.set(1, 2, 0);
        x.set(0, 0, 7);
        x.set(3, 1, 40);
        x.state(4);
        law(x, "err 1000 when number = 6; err 0;");
        x.play(9);
        x.image(true);
        x.play(4);
        feed(x, "err 3;");
        return x;
    }

    /** Eight people, six rules, a book of a hundred, a tape of four hundred. */
    private static SevenUnsaid full() {
        SevenUnsaid x = people(1, 2, 3, 4, 5, 6, 7, 8);
        for (int k = 0; k < 6; k++) {
            x.rule(0, k, k % 3);
        }
        law(x, "err 1000;");
        x.play(101);
        feed(x, "err 4;" + " ".repeat(394));
        return x;
    }

    /** Rules and a number told, nobody there. */
    private static SevenUnsaid empty() {
        SevenUnsaid x = new SevenUnsaid();
        x.rule(1, 3, 1);
        x.set(4, 0, 5);
        feed(x, "err 5");
        return x;
    }

    private static String portrait(SevenUnsaid x) {
        StringBuilder all = new StringBuilder();
        surface(x, all);
        all.append("\n  text ").append(x.text());
        surface(x, all);
        all.append("\n  undo ").append(x.undo());
        surface(x, all);
        all.append("\n  image ").append(x.image(false));
        surface(x, all);
        return all.toString();
    }

    /** Of the book the first line and the last: an object has 512 calls. */
    private static void surface(SevenUnsaid x, StringBuilder all) {
        int people = x.look(0);
        int rules = x.look(1);
        int lines = x.look(9);
        for (int k = 0; k <= 12; k++) {
            all.append(' ').append(x.look(k));
        }
        all.append(" fault ").append(x.fault(0)).append(' ').append(x.fault(1));
        for (int k = 0; k < 4; k++) {
            all.append(" | ").append(k);
            for (int p = 0; p < people; p++) {
                all.append(' ').append(x.of(p, k));
            }
            for (int r = 0; r < rules; r++) {
                all.append(' ').append(x.told(r, k));
            }
            all.append(' ').append(x.book(0, k)).append(' ').append(x.book(lines - 1, k));
        }
    }

    /** The call answers so, and changes nothing. */
    private static void idle(String name, Supplier<SevenUnsaid> maker, int want, ToIntFunction<SevenUnsaid> call) {
        SevenUnsaid x = maker.get();
        due(name, call.applyAsInt(x), want);
        due("behind " + name, portrait(x), portrait(maker.get()));
    }

    private static void refused(String name, ToIntFunction<SevenUnsaid> call) {
        idle(name, PromiseEdgeTest::busy, NONE, call);
    }

    private static void denied(String name, ToIntFunction<SevenUnsaid> call) {
        idle(name, PromiseEdgeTest::busy, 0, call);
    }

    private static int bit(boolean b) {
        return b ? 1 : 0;
    }

    /** So many people of weak 0, and a law. */
    private static SevenUnsaid table(int size, String law) {
        SevenUnsaid x = people(new int[size]);
        law(x, law);
        return x;
    }

    private static final int[] FAR_OUT = {LOW, LOW + 1, -10000, -2, -1, 10000, 65536, HIGH - 1, HIGH};

    /** "Nobody there, no rules." */
    private static void p01NobodyNoRules() {
        SevenUnsaid x = new SevenUnsaid();
        due("people", x.look(0), 0);
        due("rules", x.look(1), 0);
        for (int k = 0; k < 4; k++) {
            due("of(0, " + k + ")", x.of(0, k), NONE);
            due("told(0, " + k + ")", x.told(0, k), NONE);
            due("book(0, " + k + ")", x.book(0, k), NONE);
        }
        due("has(7)", x.has(7), 0);
        due("play(1)", x.play(1), NONE);
        due("undo", x.undo(), false);
        due("image", x.image(false), false);
        due("text", x.text(), 0);
    }

    /** "STATE is told: what it was": any int can be. */
    private static void p02StateOfAnyInt() {
        SevenUnsaid x = new SevenUnsaid();
        int was = 0;
        for (int v : FAR_OUT) {
            due("what it was before " + v, x.state(v), was);
            due("what it is", x.look(10), v);
            was = v;
        }
    }

    /** "NONE if one can't be". */
    private static void p03NoneIfOneCannotBe() {
        for (int weak : FAR_OUT) {
            refused("person(" + weak + ")", x -> x.person(weak));
        }
        refused("person(100)", x -> x.person(100));
    }

    /** "or there are eight". */
    private static void p03NoneIfThereAreEight() {
        due("the eighth", people(1, 2, 3, 4, 5, 6, 7).person(0), 7);
        idle("a ninth", PromiseEdgeTest::full, NONE, x -> x.person(0));
        idle("a ninth", PromiseEdgeTest::full, NONE, x -> x.person(99));
    }

    /** "NONE if one can't be". */
    private static void p04NoneIfOneCannotBe() {
        for (int v : FAR_OUT) {
            refused("rule(" + v + ", 5, 0)", x -> x.rule(v, 5, 0));
            refused("rule(0, " + v + ", 0)", x -> x.rule(0, v, 0));
            refused("rule(1, " + v + ", 0)", x -> x.rule(1, v, 0));
            refused("rule(0, 5, " + v + ")", x -> x.rule(0, 5, v));
            refused("rule(1, 5, " + v + ")", x -> x.rule(1, 5, v));
        }
        refused("rule(2, 5, 0)", x -> x.rule(2, 5, 0));
        refused("rule(0, 10, 0)", x -> x.rule(0, 10, 0));
        refused("rule(1, 0, 0)", x -> x.rule(1, 0, 0));
        refused("rule(1, 1, 0)", x -> x.rule(1, 1, 0));
        refused("rule(1, 100, 0)", x -> x.rule(1, 100, 0));
        refused("rule(0, 5, 3)", x -> x.rule(0, 5, 3));
    }

    /** "or there are six". */
    private static void p04NoneIfThereAreSix() {
        SevenUnsaid x = new SevenUnsaid();
        for (int k = 0; k < 5; k++) {
            x.rule(0, k, 0);
        }
        due("the sixth", x.rule(0, 9, 0), 5);
        idle("a seventh", PromiseEdgeTest::full, NONE, y -> y.rule(0, 9, 0));
        idle("a seventh alike", PromiseEdgeTest::full, NONE, y -> y.rule(0, 0, 0));
    }

    /** "PACE (who not asked)", "(who not asked for 4, 5)". */
    private static void p05WhoIsNotAsked() {
        int[] others = {LOW, -1, 0, 7, 8, HIGH};
        SevenUnsaid x = people(0, 0);
        int v = 1;
        for (int who : others) {
            v++;
            due("set(0, " + who + ", " + v + ")", x.set(0, who, v), true);
            due("pace", x.look(6), v);
            due("set(4, " + who + ", " + v + ")", x.set(4, who, v), true);
            due("next", x.look(2), v);
            due("set(5, " + who + ", " + v % 2 + ")", x.set(5, who, v % 2), true);
            due("at", x.look(3), v % 2);
        }
    }

    /** "false if one can't be": a value. */
    private static void p05FalseIfAValueCannotBe() {
        int[][] beyond = {{-1, 100}, {-1, 2}, {-1, 100}, {-1, 10000}, {0, 10000}, {-1, 3}};
        for (int k = 0; k < 6; k++) {
            int what = k;
            for (int v : beyond[k]) {
                denied("set(" + what + ", 0, " + v + ")", x -> bit(x.set(what, 0, v)));
            }
            for (int v : FAR_OUT) {
                denied("set(" + what + ", 0, " + v + ")", x -> bit(x.set(what, 0, v)));
            }
        }
    }

    /** "false if one can't be": a RULE or a PERSON. */
    private static void p05FalseIfWhoCannotBe() {
        for (int k = 1; k <= 3; k++) {
            int what = k;
            denied("set(" + what + ", 3, 1)", x -> bit(x.set(what, 3, 1)));
            for (int who : FAR_OUT) {
                denied("set(" + what + ", " + who + ", 1)", x -> bit(x.set(what, who, 1)));
            }
            idle("set(" + what + ", 8, 1) of a full one", PromiseEdgeTest::full, 0, x -> bit(x.set(what, 8, 1)));
        }
        idle("set(1, 6, 1) of a full one", PromiseEdgeTest::full, 0, x -> bit(x.set(1, 6, 1)));
        idle("set(2, 0, 1) of nobody", PromiseEdgeTest::empty, 0, x -> bit(x.set(2, 0, 1)));
        idle("set(3, 0, 1) of nobody", PromiseEdgeTest::empty, 0, x -> bit(x.set(3, 0, 1)));
        idle("set(5, 0, 0) of nobody", PromiseEdgeTest::empty, 0, x -> bit(x.set(5, 0, 0)));
    }

    /** "or another what". */
    private static void p05FalseForAnotherWhat() {
        denied("set(6, 0, 1)", x -> bit(x.set(6, 0, 1)));
        for (int what : FAR_OUT) {
            denied("set(" + what + ", 0, 1)", x -> bit(x.set(what, 0, 1)));
        }
    }

    /** The last RULE, the last PERSON, the last SEAT can be told. */
    private static void p05TheLastOnesCanBe() {
        SevenUnsaid x = full();
        due("rule 5", x.set(1, 5, 0), true);
        due("is off", x.told(5, 3), 0);
        due("rule 4 is not", x.told(4, 3), 1);
        due("weak of 7", x.set(2, 7, 99), true);
        due("weak", x.of(7, 0), 99);
        due("glasses of 7", x.set(3, 7, 9999), true);
        due("glasses", x.of(7, 1), 9999);
        due("seat 7", x.set(5, 0, 7), true);
        due("at", x.look(3), 7);
    }

    /** "NEXT (1 .. 9999; the WAY, TURNED stay)". */
    private static void p05NextLeavesWayAndTurned() {
        SevenUnsaid x = table(3, "");
        x.rule(1, 2, 1);
        x.play(2);
        int[] numbers = {1, 9999, 2};
        for (int v : numbers) {
            due("set next " + v, x.set(4, 0, v), true);
            due("next", x.look(2), v);
            due("the way", x.look(4), -1);
            due("turned", x.look(5), 1);
            due("at", x.look(3), 0);
        }
    }

    /** "false if one can't be (alike)". */
    private static void p06FalseIfAlike() {
        for (int k = 0; k < 3; k++) {
            int person = k;
            denied("change(" + person + ", " + person + ")", x -> bit(x.change(person, person)));
        }
    }

    /** "false if one can't be". */
    private static void p06FalseIfOneCannotBe() {
        denied("change(0, 3)", x -> bit(x.change(0, 3)));
        denied("change(3, 0)", x -> bit(x.change(3, 0)));
        denied("change(3, 4)", x -> bit(x.change(3, 4)));
        for (int who : FAR_OUT) {
            denied("change(0, " + who + ")", x -> bit(x.change(0, who)));
            denied("change(" + who + ", 0)", x -> bit(x.change(who, 0)));
        }
        idle("change(0, 1) of nobody", PromiseEdgeTest::empty, 0, x -> bit(x.change(0, 1)));
        idle("change(0, 8) of a full one", PromiseEdgeTest::full, 0, x -> bit(x.change(0, 8)));
        due("change(0, 7) of a full one", full().change(0, 7), true);
    }

    /** "of each number the highest first": with the highest bit set, too. */
    private static void p07HighestByteFirst() {
        SevenUnsaid x = people(0);
        x.feed('e' << 24 | 'r' << 16 | 'r' << 8 | '1', '2' << 24 | '3' << 16 | ';' << 8 | 'e', 'r' << 24 | 'r' << 16
                | '4' << 8 | '5', ';' << 24 | ' ' << 16 | ' ' << 8 | 10, 0x20202020);
        due("two lines", x.text(), 2);
        due("odds", x.of(0, 3), 123);
        for (int place = 0; place < 20; place++) {
            int[] five = {0x20202020, 0x20202020, 0x20202020, 0x20202020, 0x20202020};
            five[place / 4] |= 0x80 << 24 - place % 4 * 8;
            x.feed(five[0], five[1], five[2], five[3], five[4]);
            due("a wrong byte at " + place, x.text(), NONE);
            due("its place", x.fault(1), place);
        }
    }

    /** "NONE, and nothing comes, if there would be more than 400". */
    private static void p07NoMoreThan400() {
        SevenUnsaid x = new SevenUnsaid();
        for (int k = 1; k <= 20; k++) {
            due("feed " + k, x.feed(0, 0, 0, 0, 0), 20 * k);
        }
        due("to 420", x.feed(0, 0, 0, 0, 0), NONE);
        due("400 are there", x.end(400), true);
        x.end(381);
        due("to 401", x.feed(0, 0, 0, 0, 0), NONE);
        due("381 are there, no more", x.end(382), false);
        due("381 are there", x.end(381), true);
        x.end(380);
        due("to 400", x.feed(0, 0, 0, 0, 0), 400);
        idle("feed to a full one", PromiseEdgeTest::full, NONE, y -> y.feed(0, 0, 0, 0, 0));
    }

    /** A full TAPE is a law to its last byte. */
    private static void p07AFullTapeIsRead() {
        SevenUnsaid x = people(0);
        due("the last byte", law(x, "err 8" + " ".repeat(394) + ";"), 1);
        due("odds", x.of(0, 3), 8);
        due("a token of each byte", law(x, "err 1" + "+1".repeat(197) + ";"), 1);
        due("odds", x.of(0, 3), 198);
        due("a wrong last byte", law(x, "err 8;" + " ".repeat(393) + "#"), NONE);
        due("its place", x.fault(1), 399);
    }

    /** "false, changing nothing, if it has not so many". */
    private static void p08FalseIfItHasNotSoMany() {
        denied("end(7) of six", x -> bit(x.end(7)));
        denied("end(20) of six", x -> bit(x.end(20)));
        denied("end(400) of six", x -> bit(x.end(400)));
        denied("end high", x -> bit(x.end(HIGH)));
        idle("end(401) of a full one", PromiseEdgeTest::full, 0, x -> bit(x.end(401)));
        due("end(1) of none", new SevenUnsaid().end(1), false);
        due("end(6) of six", busy().end(6), true);
        due("end(400) of a full one", full().end(400), true);
    }

    /** "or n is below 0". */
    private static void p08FalseIfBelowNought() {
        denied("end(-1)", x -> bit(x.end(-1)));
        denied("end(-400)", x -> bit(x.end(-400)));
        denied("end low", x -> bit(x.end(LOW)));
        due("end(-1) of none", new SevenUnsaid().end(-1), false);
    }

    /** "The TAPE has its first n bytes alone": none can be left, all can be. */
    private static void p08NoneOrAllAreLeft() {
        SevenUnsaid x = busy();
        due("all", x.end(6), true);
        due("five", x.end(5), true);
        due("six no more", x.end(6), false);
        due("none", x.end(0), true);
        due("one no more", x.end(1), false);
        due("none again", x.end(0), true);
        due("an empty law", x.text(), 0);
        feed(x, "err 9;");
        due("what comes then is behind nothing", x.text(), 1);
        due("odds", x.of(0, 3), 9);
    }

    /** "The TAPE, empty then, is THE LAW": with a FAULT it is empty, too. */
    private static void p09TheTapeIsEmptyThen() {
        SevenUnsaid x = people(0);
        due("a law", law(x, "err 5;"), 1);
        due("none is left", x.end(1), false);
        due("twenty come", x.feed(0, 0, 0, 0, 0), 20);
        due("a fault", x.text(), NONE);
        due("none is left of it", x.end(1), false);
        due("twenty come again", x.feed(0, 0, 0, 0, 0), 20);
    }

    /** "NONE: a FAULT (it stays as it was)". */
    private static void p09TheLawStaysWithAFault() {
        String[] faults = {"err", "err 1; err 2; err 5/0;", "err 1;".repeat(17), "err 9 when " + "not ".repeat(9)};
        for (String text : faults) {
            SevenUnsaid x = people(0);
            law(x, "err 5 when number = 1; err 6;");
            due("text", law(x, text), NONE);
            due("lines", x.look(11), 2);
            due("the first line", x.of(0, 3), 5);
            x.set(4, 0, 2);
            due("the second line", x.of(0, 3), 6);
        }
        SevenUnsaid x = people(0);
        x.rule(1, 2, 0);
        law(x, "err run*7;");
        law(x, "err words; err");
        x.set(4, 0, 2);
        due("runs still count", x.of(0, 3), 7);
    }

    /** "Of the latest text(): what 0 the FAULT (0 without one), 1 its place (NONE)". */
    private static void p10WithoutAFault() {
        SevenUnsaid x = new SevenUnsaid();
        due("no text yet", x.fault(0), 0);
        due("no place yet", x.fault(1), NONE);
        law(x, "err 5/0;");
        due("a part by 0", x.fault(0), 2);
        due("its place", x.fault(1), 6);
        feed(x, "err 5;");
        due("not before text()", x.fault(0), 2);
        x.text();
        due("none then", x.fault(0), 0);
        due("no place then", x.fault(1), NONE);
        law(x, "#");
        due("at 0", x.fault(1), 0);
        x.text();
        due("none of an empty one", x.fault(0), 0);
        due("no place of an empty one", x.fault(1), NONE);
    }

    /** "NONE for another what". */
    private static void p10NoneForAnotherWhat() {
        refused("fault(2)", x -> x.fault(2));
        for (int what : FAR_OUT) {
            refused("fault(" + what + ")", x -> x.fault(what));
        }
        SevenUnsaid x = new SevenUnsaid();
        law(x, "#");
        due("fault(2) with a fault", x.fault(2), NONE);
        due("fault(-1) with a fault", x.fault(-1), NONE);
    }

    /** "Numbers are PLAYED (1 .. 200)": the least, the most. */
    private static void p11OneToTwoHundred() {
        SevenUnsaid x = people(0);
        due("one", x.play(1), 0);
        due("said", x.look(8), 1);
        due("two hundred", x.play(200), 0);
        due("said then", x.look(8), 201);
        law(x, "err 1000;");
        due("two hundred errors", x.play(200), 200);
        due("glasses", x.of(0, 1), 200);
    }

    /** "NONE, and nothing is done, if one can't be". */
    private static void p11NoneIfOneCannotBe() {
        refused("play(0)", x -> x.play(0));
        refused("play(201)", x -> x.play(201));
        for (int n : FAR_OUT) {
            refused("play(" + n + ")", x -> x.play(n));
        }
    }

    /** "or nobody is there". */
    private static void p11NoneIfNobodyIsThere() {
        idle("play(1)", PromiseEdgeTest::empty, NONE, x -> x.play(1));
        idle("play(200)", PromiseEdgeTest::empty, NONE, x -> x.play(200));
    }

    /** "NONE if there is none such". */
    private static void p12NoneIfThereIsNoneSuch() {
        for (int k = 0; k < 4; k++) {
            int what = k;
            refused("of(3, " + what + ")", x -> x.of(3, what));
            refused("of(-1, " + what + ")", x -> x.of(-1, what));
            for (int person : FAR_OUT) {
                due("of(" + person + ", " + what + ")", busy().of(person, what), NONE);
            }
            idle("of(0, " + what + ") of nobody", PromiseEdgeTest::empty, NONE, x -> x.of(0, what));
            due("of(8, " + what + ") of a full one", full().of(8, what), NONE);
        }
        due("of(7, 0) of a full one", full().of(7, 0), 8);
    }

    /** "or another what". */
    private static void p12NoneForAnotherWhat() {
        refused("of(0, 4)", x -> x.of(0, 4));
        for (int what : FAR_OUT) {
            refused("of(0, " + what + ")", x -> x.of(0, what));
        }
    }

    /** "ODDS of NEXT for him": of one who is not AT, too, and nothing is drawn. */
    private static void p12OddsAreOnlyThoughtOf() {
        idle("of(0, 3)", PromiseEdgeTest::busy, 0, x -> x.of(0, 3));
        SevenUnsaid x = people(10, 20, 30);
        law(x, "err weak;");
        for (int k = 0; k < 3; k++) {
            due("odds for " + k, x.of(k, 3), 10 + 10 * k);
        }
    }

    /** "NONE if there is none such, or another what". */
    private static void p13NoneIfThereIsNoneSuch() {
        for (int k = 0; k < 4; k++) {
            int what = k;
            refused("told(3, " + what + ")", x -> x.told(3, what));
            refused("told(-1, " + what + ")", x -> x.told(-1, what));
            for (int rule : FAR_OUT) {
                due("told(" + rule + ", " + what + ")", busy().told(rule, what), NONE);
            }
            due("told(6, " + what + ") of a full one", full().told(6, what), NONE);
        }
        due("told(5, 1) of a full one", full().told(5, 1), 5);
        refused("told(0, 4)", x -> x.told(0, 4));
        for (int what : FAR_OUT) {
            refused("told(0, " + what + ")", x -> x.told(0, what));
        }
    }

    /** A RULE that is only thought of is none that is told. */
    private static void p13AThirdIsNotTold() {
        SevenUnsaid x = full();
        x.third(0, 9, 1, x.look(2));
        due("told(6, 1)", x.told(6, 1), NONE);
        due("has(9)", x.has(9), 0);
        x = busy();
        x.third(0, 9, 1, x.look(2));
        due("told(3, 1)", x.told(3, 1), NONE);
        due("has(9)", x.has(9), 1);
    }

    /** "a number (1 .. 9999)", "NONE if one can't be". */
    private static void p14NoneIfOneCannotBe() {
        refused("has(0)", x -> x.has(0));
        refused("has(10000)", x -> x.has(10000));
        for (int number : FAR_OUT) {
            refused("has(" + number + ")", x -> x.has(number));
        }
        SevenUnsaid x = new SevenUnsaid();
        x.rule(0, 1, 0);
        x.rule(1, 99, 0);
        due("has(1)", x.has(1), 1);
        due("has(9999)", x.has(9999), 2);
        due("has(0) without rules", new SevenUnsaid().has(0), NONE);
        due("has(10000) without rules", new SevenUnsaid().has(10000), NONE);
    }

    /** "as a set": all six, and none. */
    private static void p14AllAndNone() {
        SevenUnsaid x = new SevenUnsaid();
        due("none", x.has(12), 0);
        int[][] rules = {{0, 1}, {0, 2}, {1, 2}, {1, 3}, {1, 4}, {1, 6}};
        for (int[] r : rules) {
            x.rule(r[0], r[1], 0);
        }
        due("six", x.has(12), 63);
        due("the last alone is off", x.set(1, 5, 0) ? x.has(12) : NONE, 31);
        due("the first, too", x.set(1, 0, 0) ? x.has(12) : NONE, 30);
        due("none has none", x.has(7), 0);
    }

    /** "NONE if there is none such, or another what". */
    private static void p15NoneIfThereIsNoneSuch() {
        for (int k = 0; k < 4; k++) {
            int what = k;
            refused("book(2, " + what + ")", x -> x.book(2, what));
            refused("book(-1, " + what + ")", x -> x.book(-1, what));
            due("book(100, " + what + ") of a full one", full().book(100, what), NONE);
            for (int i : FAR_OUT) {
                due("book(" + i + ", " + what + ")", full().book(i, what), NONE);
            }
        }
        due("book(99, 0) of a full one", full().book(99, 0), 1);
        due("book(1, 0)", busy().book(1, 0), 6);
        refused("book(0, 4)", x -> x.book(0, 4));
        for (int what : FAR_OUT) {
            refused("book(0, " + what + ")", x -> x.book(0, what));
        }
    }

    /** "who was ahead (NONE)". */
    private static void p15NobodyAhead() {
        SevenUnsaid x = table(2, "err 1000;");
        x.play(2);
        due("nobody", x.book(0, 2), NONE);
        due("he himself", x.book(1, 2), 0);
    }

    /** "NONE if one can't be (below NEXT ..": 1 is below 2, the NEXT of the busy one. */
    private static void p16NoneIfOneCannotBe() {
        refused("whose(1)", x -> x.whose(1));
        refused("whose(0)", x -> x.whose(0));
        refused("whose(10000)", x -> x.whose(10000));
        for (int v : FAR_OUT) {
            refused("whose(" + v + ")", x -> x.whose(v));
        }
    }

    /** ".. nobody there)". */
    private static void p16NoneIfNobodyIsThere() {
        int[] numbers = {1, 5, 9999};
        for (int v : numbers) {
            idle("whose(" + v + ")", PromiseEdgeTest::empty, NONE, x -> x.whose(v));
        }
    }

    /** "(from NEXT to 9999)". */
    private static void p16FromNextTo9999() {
        SevenUnsaid x = people(0, 0, 0, 0, 0, 0, 0);
        x.set(5, 0, 3);
        due("1", x.whose(1), 3);
        // 9998 seats on from 3, of seven.
        due("9999", x.whose(9999), (3 + 9998) % 7);
        x.set(4, 0, 9999);
        due("9999, next", x.whose(9999), 3);
        due("9998", x.whose(9998), NONE);
        due("1, that comes behind", x.whose(1), NONE);
        idle("whose(9)", PromiseEdgeTest::busy, busy().whose(9), y -> y.whose(9));
    }

    /** "GET; NONE if one can't be (below NEXT, nobody there)". */
    private static void p17NoneIfOneCannotBe() {
        refused("get(1)", x -> x.get(1));
        refused("get(0)", x -> x.get(0));
        refused("get(10000)", x -> x.get(10000));
        for (int v : FAR_OUT) {
            refused("get(" + v + ")", x -> x.get(v));
        }
        idle("get(5) of nobody", PromiseEdgeTest::empty, NONE, x -> x.get(5));
        idle("get(9999) of nobody", PromiseEdgeTest::empty, NONE, x -> x.get(9999));
    }

    /** "for each number from NEXT to v": both of them count, none beside them. */
    private static void p17FromNextToV() {
        SevenUnsaid x = table(1, "err 100 when number = 9999 or number = 5;");
        due("to 4", x.get(4), 1000000);
        due("to 5", x.get(5), 900000);
        due("to 9998", x.get(9998), 900000);
        due("to 9999", x.get(9999), 810000);
        x.set(4, 0, 5);
        due("5 to 5", x.get(5), 900000);
        x.set(4, 0, 6);
        due("6 to 9998", x.get(9998), 1000000);
        x.set(4, 0, 9999);
        due("9999 to 9999", x.get(9999), 900000);
    }

    /** "a million, then .. times 1000 less its ODDS, by 1000": all of it, none of it, less than one. */
    private static void p17FromAMillionToNought() {
        due("no odds", table(1, "").get(9999), 1000000);
        due("odds of 1000", table(1, "err 1000;").get(1), 0);
        due("odds of 1000 at last", table(1, "err 1000 when number = 9999;").get(9999), 0);
        due("odds of 1000 at first", table(1, "err 1000 when number = 1;").get(9999), 0);
        due("odds of 999", table(1, "err 999;").get(2), 1);
        due("odds of 999, once more", table(1, "err 999;").get(3), 0);
    }

    /** "NONE likewise". */
    private static void p18NoneIfOneCannotBe() {
        refused("hardest(1)", x -> x.hardest(1));
        refused("hardest(0)", x -> x.hardest(0));
        refused("hardest(10000)", x -> x.hardest(10000));
        for (int v : FAR_OUT) {
            refused("hardest(" + v + ")", x -> x.hardest(v));
        }
        idle("hardest(5) of nobody", PromiseEdgeTest::empty, NONE, x -> x.hardest(5));
        idle("hardest(9999) of nobody", PromiseEdgeTest::empty, NONE, x -> x.hardest(9999));
    }

    /** "of these that with the greatest ODDS, of several the first": the last, the first, all alike. */
    private static void p18OfSeveralTheFirst() {
        SevenUnsaid x = table(1, "err 1 when number > 9998;");
        due("the last", x.hardest(9999), 9999);
        due("all alike, no odds", x.hardest(9998), 1);
        x.set(4, 0, 9999);
        due("one alone", x.hardest(9999), 9999);
        due("all alike", table(1, "err 1000;").hardest(9999), 1);
        x.set(4, 0, 7);
        law(x, "err 9 when number = 6 or number = 9 or number = 11; err 8;");
        due("the first of two, what is below NEXT is none", x.hardest(20), 9);
        due("what is above v is none", x.hardest(8), 7);
        law(x, "err number * 500;");
        due("held odds are alike", x.hardest(20), 7);
    }

    /** "WORDS of a SEAT up to v (1 .. 999)", "NONE if one can't be". */
    private static void p19NoneIfOneCannotBe() {
        refused("words(3, 5)", x -> x.words(3, 5));
        refused("words(-1, 5)", x -> x.words(-1, 5));
        refused("words(0, 0)", x -> x.words(0, 0));
        refused("words(0, 1000)", x -> x.words(0, 1000));
        for (int v : FAR_OUT) {
            refused("words(0, " + v + ")", x -> x.words(0, v));
            refused("words(" + v + ", 5)", x -> x.words(v, 5));
        }
        idle("words(0, 5) of nobody", PromiseEdgeTest::empty, NONE, x -> x.words(0, 5));
        due("words(8, 5) of a full one", full().words(8, 5), NONE);
        due("words(7, 999) of a full one", full().words(7, 999) > 0, true);
    }

    /** The same: 1 counts, and 999. */
    private static void p19FromOneTo999() {
        SevenUnsaid x = table(2, "");
        x.rule(0, 1, 0);
        x.set(4, 0, 50);
        x.set(5, 0, 1);
        due("1, from the start", x.words(0, 1), 1);
        due("not the other's", x.words(1, 1), 0);
        SevenUnsaid y = table(2, "");
        y.rule(1, 37, 0);
        // 999 is 37 * 27, an odd number and so seat 0's: the odd ones of 27.
        due("up to 998", y.words(0, 998), 13);
        due("up to 999", y.words(0, 999), 14);
        due("the other's", y.words(1, 999), 13);
    }

    /** "SIT up to v; NONE if one can't be". */
    private static void p20NoneIfOneCannotBe() {
        refused("sit(0)", x -> x.sit(0));
        refused("sit(1000)", x -> x.sit(1000));
        for (int v : FAR_OUT) {
            refused("sit(" + v + ")", x -> x.sit(v));
        }
        idle("sit(1) of nobody", PromiseEdgeTest::empty, NONE, x -> x.sit(1));
        idle("sit(999) of nobody", PromiseEdgeTest::empty, NONE, x -> x.sit(999));
    }

    /** "the SEAT with the fewest WORDS; of several the least". */
    private static void p20OfSeveralTheLeast() {
        due("no words", table(8, "").sit(999), 0);
        due("one alone", table(1, "").sit(1), 0);
        SevenUnsaid x = table(3, "");
        x.rule(0, 1, 0);
        due("1 is seat 0's", x.sit(1), 1);
        x.rule(0, 2, 0);
        due("2 is seat 1's", x.sit(2), 2);
        x.rule(0, 3, 0);
        due("3 is seat 2's", x.sit(3), 0);
        x.set(4, 0, 77);
        x.set(5, 0, 2);
        due("from the start", x.sit(1), 1);
        SevenUnsaid y = table(2, "");
        y.rule(1, 37, 0);
        due("alike up to 998", y.sit(998), 0);
        due("999 is seat 0's", y.sit(999), 1);
        SevenUnsaid z = table(8, "");
        for (int f = 1; f <= 6; f++) {
            z.rule(0, f, 0);
        }
        due("seats 6 and 7 have none", z.sit(8), 6);
        SevenUnsaid w = table(7, "");
        for (int f = 1; f <= 6; f++) {
            w.rule(0, f, 0);
        }
        due("the last one has none", w.sit(7), 6);
        SevenUnsaid e = table(8, "");
        int[] figures = {1, 2, 4, 5, 7};
        for (int f : figures) {
            e.rule(0, f, 0);
        }
        e.rule(1, 3, 0);
        due("the eighth has none", e.sit(8), 7);
    }

    /** "From .. to (1 .. 9999)", "NONE if one can't be, or another what". */
    private static void p21NoneIfOneCannotBe() {
        for (int k = 0; k < 3; k++) {
            int what = k;
            refused("plain(0, 5, " + what + ")", x -> x.plain(0, 5, what));
            refused("plain(1, 10000, " + what + ")", x -> x.plain(1, 10000, what));
            refused("plain(5, 4, " + what + ")", x -> x.plain(5, 4, what));
            refused("plain(9999, 1, " + what + ")", x -> x.plain(9999, 1, what));
            refused("plain(10000, 10000, " + what + ")", x -> x.plain(10000, 10000, what));
            refused("plain(0, 0, " + what + ")", x -> x.plain(0, 0, what));
        }
        for (int v : FAR_OUT) {
            refused("plain(" + v + ", 9999, 0)", x -> x.plain(v, 9999, 0));
            refused("plain(1, " + v + ", 0)", x -> x.plain(1, v, 0));
            refused("plain(1, 5, " + v + ")", x -> x.plain(1, 5, v));
        }
        refused("plain(1, 5, 3)", x -> x.plain(1, 5, 3));
        refused("plain(low, high, 0)", x -> x.plain(LOW, HIGH, 0));
    }

    /** The same: one number alone, the first, the last, all; nobody need be there. */
    private static void p21OneNumberAndAll() {
        SevenUnsaid x = new SevenUnsaid();
        due("all", x.plain(1, 9999, 0), 9999);
        x.rule(0, 1, 0);
        x.rule(1, 99, 0);
        due("1", x.plain(1, 1, 0), 0);
        due("1 begins", x.plain(1, 1, 2), 1);
        due("9999", x.plain(9999, 9999, 0), 0);
        due("9999 begins", x.plain(9999, 9999, 2), 9999);
        due("9998", x.plain(9998, 9998, 0), 1);
        due("9998, 9999", x.plain(9998, 9999, 1), 1);
        due("1, 2", x.plain(1, 2, 0), 1);
        idle("of nobody", PromiseEdgeTest::empty, 7, y -> y.plain(1, 10, 0));
    }

    /** "where it begins (NONE without one)". */
    private static void p21NoneWithoutARun() {
        SevenUnsaid x = new SevenUnsaid();
        due("no rule, no run", x.plain(1, 9999, 1), 0);
        due("no rule, none begins", x.plain(1, 9999, 2), NONE);
        x.rule(1, 7, 0);
        due("no word there", x.plain(8, 13, 1), 0);
        due("none begins there", x.plain(8, 13, 2), NONE);
        due("all are plain", x.plain(8, 13, 0), 6);
        due("14 is one", x.plain(8, 14, 1), 1);
        due("14 begins", x.plain(8, 14, 2), 14);
        due("7 is one", x.plain(7, 13, 2), 7);
    }

    /** "the longest RUN of WORDS in from .. to (those there alone), where it begins (of several the first)". */
    private static void p21ThoseThereAlone() {
        SevenUnsaid x = new SevenUnsaid();
        x.rule(0, 7, 0);
        due("70 .. 79", x.plain(1, 99, 1), 10);
        due("begins", x.plain(1, 99, 2), 70);
        due("cut ahead", x.plain(75, 99, 1), 5);
        due("cut ahead begins", x.plain(75, 99, 2), 75);
        due("cut behind", x.plain(60, 73, 1), 4);
        due("cut behind begins", x.plain(60, 73, 2), 70);
        due("within", x.plain(73, 74, 1) * 100 + x.plain(73, 74, 2), 273);
        due("7, 17, 27 are alike", x.plain(1, 30, 2), 7);
        due("of ten each", x.plain(150, 399, 1), 10);
        due("of ten each, the first", x.plain(150, 399, 2), 170);
        SevenUnsaid y = new SevenUnsaid();
        y.rule(1, 2, 0);
        for (int f = 1; f <= 9; f += 2) {
            y.rule(0, f, 0);
        }
        due("all are words", y.plain(1, 9999, 1), 9999);
        due("from 1 on", y.plain(1, 9999, 2), 1);
        due("none is plain", y.plain(1, 9999, 0), 0);
    }

    /** "THIRD; NONE if one can't be": the RULE. */
    private static void p22NoneIfTheRuleCannotBe() {
        for (int v : FAR_OUT) {
            refused("third(" + v + ", 5, 0, 5)", x -> x.third(v, 5, 0, 5));
            refused("third(0, " + v + ", 0, 5)", x -> x.third(0, v, 0, 5));
            refused("third(1, " + v + ", 0, 5)", x -> x.third(1, v, 0, 5));
            refused("third(0, 5, " + v + ", 5)", x -> x.third(0, 5, v, 5));
        }
        int[][] bad = {{2, 5, 0}, {0, 10, 0}, {1, 0, 0}, {1, 1, 0}, {1, 100, 0}, {0, 5, 3}, {1, 5, 3}};
        for (int[] b : bad) {
            refused("third(" + b[0] + ", " + b[1] + ", " + b[2] + ", 5)", x -> x.third(b[0], b[1], b[2], 5));
        }
    }

    /** The same: the number. */
    private static void p22NoneIfTheNumberCannotBe() {
        refused("third(0, 5, 0, 1)", x -> x.third(0, 5, 0, 1));
        refused("third(0, 5, 0, 0)", x -> x.third(0, 5, 0, 0));
        refused("third(0, 5, 0, 10000)", x -> x.third(0, 5, 0, 10000));
        for (int v : FAR_OUT) {
            refused("third(0, 5, 0, " + v + ")", x -> x.third(0, 5, 0, v));
        }
        idle("third(0, 5, 0, 5) of nobody", PromiseEdgeTest::empty, NONE, x -> x.third(0, 5, 0, 5));
        idle("third(0, 5, 0, 9999) of nobody", PromiseEdgeTest::empty, NONE, x -> x.third(0, 5, 0, 9999));
    }

    /** Each RULE that can be can be thought of, from NEXT on to 9999. */
    private static void p22TheEdgesThatCanBe() {
        SevenUnsaid x = table(1, "err words*100;");
        due("figure 0", x.third(0, 0, 0, 10), 900000);
        due("figure 9", x.third(0, 9, 0, 9), 900000);
        due("multiple of 2", x.third(1, 2, 0, 2), 900000);
        x.set(4, 0, 99);
        due("multiple of 99", x.third(1, 99, 2, 99), 900000);
        x.set(4, 0, 9999);
        due("multiple of 99, 9999", x.third(1, 99, 1, 9999), 900000);
        due("figure 1, 9999", x.third(0, 1, 0, 9999), 1000000);
    }

    /** "(six RULES are no hindrance)": the seventh counts, turns and skips. */
    private static void p22SixAreNoHindrance() {
        SevenUnsaid x = people(0, 50, 90);
        for (int k = 0; k < 6; k++) {
            x.rule(1, 98, 0);
        }
        law(x, "err weak + words*100;");
        due("it is had", x.third(0, 1, 0, 1), 900000);
        due("it turns", x.third(0, 1, 1, 2), 819000);
        due("it skips", x.third(0, 1, 2, 2), 819000);
        due("it skips, and goes on", x.third(0, 1, 2, 3), 819000);
        due("it turns, and goes on", x.third(0, 1, 1, 3), 778050);
        x.set(4, 0, 98);
        due("seven words", x.third(1, 2, 0, 98), 300000);
        due("six words", x.get(98), 400000);
        idle("third of a full one", PromiseEdgeTest::full, 0, y -> y.third(0, 9, 1, y.look(2)));
    }

    /** "FEWEST", "NONE if one can't be, or another what". */
    private static void p23NoneIfOneCannotBe() {
        for (int k = 0; k < 3; k++) {
            int what = k;
            refused("fewest(0, 5, " + what + ")", x -> x.fewest(0, 5, what));
            refused("fewest(1, 10000, " + what + ")", x -> x.fewest(1, 10000, what));
            refused("fewest(5, 4, " + what + ")", x -> x.fewest(5, 4, what));
            refused("fewest(10000, 10000, " + what + ")", x -> x.fewest(10000, 10000, what));
            refused("fewest(0, 0, " + what + ")", x -> x.fewest(0, 0, what));
        }
        for (int v : FAR_OUT) {
            refused("fewest(" + v + ", 9999, 0)", x -> x.fewest(v, 9999, 0));
            refused("fewest(1, " + v + ", 0)", x -> x.fewest(1, v, 0));
            refused("fewest(1, 5, " + v + ")", x -> x.fewest(1, 5, v));
        }
        refused("fewest(1, 5, 3)", x -> x.fewest(1, 5, 3));
    }

    private static void fewest(SevenUnsaid x, int from, int to, int sort, int number, int left) {
        String span = from + " .. " + to;
        due("sort in " + span, x.fewest(from, to, 0), sort);
        due("number in " + span, x.fewest(from, to, 1), number);
        due("left in " + span, x.fewest(from, to, 2), left);
    }

    private static SevenUnsaid rules(int... sortsAndNumbers) {
        SevenUnsaid x = new SevenUnsaid();
        for (int k = 0; k < sortsAndNumbers.length; k += 2) {
            x.rule(sortsAndNumbers[k], sortsAndNumbers[k + 1], 0);
        }
        return x;
    }

    /** "of all RULES of SORT 0 (0 .. 9)": each of them may be the one. */
    private static void p23EachFigureMayBe() {
        for (int f = 1; f <= 9; f++) {
            fewest(new SevenUnsaid(), f, f, 0, f, 0);
        }
        fewest(new SevenUnsaid(), 10, 10, 0, 0, 0);
        fewest(new SevenUnsaid(), 900, 999, 0, 9, 0);
        fewest(new SevenUnsaid(), 9999, 9999, 0, 9, 0);
    }

    /** "then of SORT 1 (2 .. 20)": 19 may be, 29, with which none were left, is not looked at. */
    private static void p23MultiplesUpTo20() {
        // 19 and 38 alone are plain, and have no figure in common.
        fewest(rules(0, 2, 1, 3, 0, 4, 0, 5, 0, 7, 1, 31), 19, 38, 1, 19, 0);
        // 17 and 34 likewise.
        fewest(rules(0, 2, 1, 3, 0, 9, 1, 31), 17, 34, 1, 17, 0);
        // 2 and 4 likewise.
        fewest(rules(0, 3), 2, 4, 1, 2, 0);
        // 29 and 58 likewise: figure 2 takes one of them.
        fewest(rules(0, 3, 0, 4, 1, 3, 1, 4, 1, 5), 29, 58, 0, 2, 1);
    }

    /** "of several the first": a figure ahead of a multiple, the lesser ahead. */
    private static void p23OfSeveralTheFirst() {
        fewest(new SevenUnsaid(), 2, 2, 0, 2, 0);
        fewest(new SevenUnsaid(), 98, 98, 0, 8, 0);
        fewest(new SevenUnsaid(), 13, 13, 0, 1, 0);
        // 3 takes 3 and 6, 2 takes 4 and 6.
        fewest(new SevenUnsaid(), 3, 6, 1, 2, 2);
        // All are words, none is left with any.
        fewest(rules(1, 2), 8, 8, 0, 0, 0);
    }

    /** From 1 to 9999 with none and with six there, and nobody at the table. */
    private static void p23AllNumbers() {
        // Even ones are half of them; figure 1 is in 9999 - (9^4 - 1) = 3439.
        fewest(new SevenUnsaid(), 1, 9999, 1, 2, 5000);
        idle("of a full one", PromiseEdgeTest::full, 0, x -> x.fewest(1, 5, 2));
        // 1 2 4 5 7 8 10 are plain, four of them even.
        idle("of nobody", PromiseEdgeTest::empty, 3, x -> x.fewest(1, 10, 2));
        // Six rules are there, a seventh is thought of: 7, 8 and 9 are plain.
        fewest(rules(0, 1, 0, 2, 0, 3, 0, 4, 0, 5, 0, 6), 1, 9, 0, 7, 2);
    }

    /** "SEATING (2 to 6 PEOPLE)": one or seven can't be. */
    private static void p24TwoToSixPeople() {
        for (int n = 0; n <= 8; n++) {
            int size = n;
            boolean can = n >= 2 && n <= 6;
            due("get with " + n, table(n, "").seating(60, 0), can ? 1000000 : NONE);
            due("seat 0 with " + n, table(n, "").seating(1, 10), can ? 0 : NONE);
            idle("seating with " + n, () -> table(size, "err weak;"), can ? 1000000 : NONE, x -> x.seating(5, 0));
        }
    }

    /** "up to v (1 .. 60)". */
    private static void p24UpToSixty() {
        refused("seating(0, 0)", x -> x.seating(0, 0));
        refused("seating(61, 0)", x -> x.seating(61, 0));
        refused("seating(0, 10)", x -> x.seating(0, 10));
        refused("seating(61, 10)", x -> x.seating(61, 10));
        for (int v : FAR_OUT) {
            refused("seating(" + v + ", 0)", x -> x.seating(v, 0));
        }
        SevenUnsaid x = people(90, 80, 70);
        law(x, "err weak when number = 60;");
        // 60 is seat 2's.
        due("59", x.seating(59, 0), 1000000);
        due("60", x.seating(60, 0), 930000);
        due("who is there", x.seating(60, 12), 2);
        law(x, "err weak when number = 1;");
        due("1", x.seating(1, 0), 930000);
        due("who is there then", x.seating(1, 10), 2);
    }

    /** "NONE if one can't be, or another what": 10 + i for SEATS that are there. */
    private static void p24NoneForAnotherWhat() {
        for (int n = 2; n <= 6; n++) {
            SevenUnsaid x = table(n, "");
            for (int what = -1; what <= 20; what++) {
                boolean isSeat = what >= 10 && what < 10 + n;
                due(n + " people, what " + what, x.seating(5, what), isSeat ? what - 10 : what == 0 ? 1000000 : NONE);
            }
        }
        for (int what : FAR_OUT) {
            refused("seating(5, " + what + ")", x -> x.seating(5, what));
        }
        refused("seating(5, 13)", x -> x.seating(5, 13));
    }

    /** "the order .. with the greatest GET": the last of all orders may be it. */
    private static void p24TheLastOrderMayBe() {
        for (int n = 2; n <= 6; n++) {
            SevenUnsaid x = new SevenUnsaid();
            for (int k = 0; k < n; k++) {
                x.person(10 * k + 10);
            }
            law(x, "err weak*number;");
            long get = 1000000;
            for (int seat = 0; seat < n; seat++) {
                due(n + " people, seat " + seat, x.seating(n, 10 + seat), n - 1 - seat);
                get = get * (1000 - 10 * (n - seat) * (seat + 1)) / 1000;
            }
            due(n + " people, get", x.seating(n, 0), (int) get);
        }
    }

    /** "of several the first (SEAT by SEAT, the lesser)": all alike, or some; with none that gets there, too. */
    private static void p24OfSeveralTheFirst() {
        String[] laws = {"", "err 7;", "err 1000;", "err 1000 when number = 60;"};
        for (String law : laws) {
            SevenUnsaid x = people(60, 50, 40, 30, 20, 10);
            law(x, law);
            x.change(0, 5);
            for (int seat = 0; seat < 6; seat++) {
                due(law + " seat " + seat, x.seating(60, 10 + seat), seat);
            }
        }
        SevenUnsaid x = people(60, 50, 40, 30, 20, 20);
        law(x, "err weak;");
        // 1 alone is said: 4 or 5 on seat 0, and the others as they come.
        int[] order = {4, 0, 1, 2, 3, 5};
        for (int seat = 0; seat < 6; seat++) {
            due("seat " + seat, x.seating(1, 10 + seat), order[seat]);
        }
    }

    /** "from the start": whatever is said next, whoever is AT, the WAY and TURNED. */
    private static void p24FromTheStart() {
        SevenUnsaid x = people(10, 20, 30);
        law(x, "err weak*number + turned*100;");
        int get = x.seating(3, 0);
        x.rule(1, 50, 1);
        x.set(4, 0, 50);
        x.state(0);
        law(x, "");
        x.play(1);
        due("the way", x.look(4), -1);
        due("turned", x.look(5), 1);
        law(x, "err weak*number + turned*100;");
        due("get", x.seating(3, 0), get);
        due("nobody has moved", x.of(0, 2) * 100 + x.of(1, 2) * 10 + x.of(2, 2), 12);
        idle("seating", PromiseEdgeTest::busy, 1000000, y -> y.seating(5, 0));
    }

    /** "BEHIND; NONE if one can't be (alike)". */
    private static void p25NoneIfAlike() {
        for (int k = 0; k < 3; k++) {
            int person = k;
            refused("behind(" + k + ", " + k + ")", x -> x.behind(person, person));
        }
        SevenUnsaid x = table(2, "err 1000;");
        x.play(5);
        due("he was ahead of himself", x.book(1, 2), 0);
        due("alike still", x.behind(0, 0), NONE);
        due("the other was not", x.behind(0, 1), 0);
    }

    /** "NONE if one can't be". */
    private static void p25NoneIfOneCannotBe() {
        refused("behind(0, 3)", x -> x.behind(0, 3));
        refused("behind(3, 0)", x -> x.behind(3, 0));
        for (int who : FAR_OUT) {
            refused("behind(0, " + who + ")", x -> x.behind(0, who));
            refused("behind(" + who + ", 0)", x -> x.behind(who, 0));
        }
        idle("of nobody", PromiseEdgeTest::empty, NONE, x -> x.behind(0, 1));
        due("behind(0, 8) of a full one", full().behind(0, 8), NONE);
        due("behind(7, 0) of a full one", full().behind(7, 0), 0);
    }

    /** "how many lines of THE BOOK": none of an empty one, all of a full one. */
    private static void p25NoneAndAHundred() {
        due("none", table(2, "").behind(0, 1), 0);
        SevenUnsaid x = table(2, "err 1000 when number = 2;");
        x.play(200);
        due("lines", x.look(9), 100);
        // He who errs begins again, so that the other one errs next.
        due("1 behind 0", x.behind(1, 0), 50);
        due("0 behind 1", x.behind(0, 1), 50);
        x.play(200);
        due("no more", x.behind(1, 0) + x.behind(0, 1), 100);
    }

    /** "false if there is nothing". */
    private static void p26FalseIfThereIsNothing() {
        due("a new one", new SevenUnsaid().undo(), false);
        idle("nothing was played", PromiseEdgeTest::empty, 0, x -> bit(x.undo()));
        idle("forgotten", PromiseEdgeTest::forgotten, 0, x -> bit(x.undo()));
    }

    private static SevenUnsaid forgotten() {
        SevenUnsaid x = busy();
        x.set(0, 0, 7);
        return x;
    }

    /** "10 are kept": the eleventh is not, played at once or one by one. */
    private static void p26TenAreKept() {
        for (int n = 1; n <= 25; n++) {
            SevenUnsaid once = table(3, "err 1000 when number = 7;");
            SevenUnsaid each = table(3, "err 1000 when number = 7;");
            once.play(n);
            for (int k = 0; k < n; k++) {
                each.play(1);
            }
            int kept = Math.min(10, n);
            due("of " + n, once.look(12), kept);
            due("of " + n + " one by one", each.look(12), kept);
            for (int k = 1; k <= kept; k++) {
                due("undo " + k + " of " + n, once.undo() && each.undo(), true);
                due("left", once.look(12), kept - k);
                // Of seven numbers each seventh is erred on.
                due("next", once.look(2), (n - k) % 7 + 1);
                due("next one by one", each.look(2), (n - k) % 7 + 1);
                due("lines", once.look(9), (n - k) / 7);
                due("said", once.look(8), n - k - (n - k) / 7);
                due("record", once.look(7), Math.min(6, n - k));
            }
            due("no more of " + n, once.undo(), false);
            due("no more of " + n + " one by one", each.undo(), false);
            due("it stays there", once.look(2), (n - kept) % 7 + 1);
        }
    }

    /** "the latest number PLAYED not undone yet": undone and played by turns. */
    private static void p26NotUndoneYet() {
        SevenUnsaid x = table(3, "");
        x.play(10);
        for (int k = 0; k < 4; k++) {
            x.undo();
        }
        due("six", x.look(12), 6);
        x.play(3);
        due("nine", x.look(12), 9);
        due("next", x.look(2), 10);
        x.play(3);
        due("ten", x.look(12), 10);
        for (int k = 0; k < 10; k++) {
            due("undo", x.undo(), true);
        }
        due("the first two stay", x.look(2), 3);
        due("nothing", x.undo(), false);
    }

    /** "goes back (GLASSES, THE BOOK, RECORD, SAID, STATE, too)": over an error and over 9999. */
    private static void p26AllGoesBack() {
        SevenUnsaid x = people(0, 0, 0);
        x.rule(1, 2, 1);
        x.rule(0, 9, 2);
        law(x, "err 1000 when number = 3; err 1;");
        x.set(4, 0, 9998);
        String[] before = new String[8];
        for (int k = 0; k < 8; k++) {
            before[k] = playedState(x);
            x.play(1);
        }
        due("two errors", x.look(9), 2);
        for (int k = 7; k >= 0; k--) {
            due("undo", x.undo(), true);
            due("as it was before " + k, playedState(x), before[k]);
        }
    }

    private static String playedState(SevenUnsaid x) {
        StringBuilder all = new StringBuilder();
        for (int k = 2; k <= 10; k++) {
            all.append(x.look(k)).append(' ');
        }
        for (int p = 0; p < 3; p++) {
            all.append(x.of(p, 1)).append(' ');
        }
        return all.append(x.book(0, 0)).append(' ').append(x.book(1, 0)).toString();
    }

    /** "whatever else is told .. forgets them": what is as it was is told, too. */
    private static void p26WhateverElseIsToldForgets() {
        forgets("state", x -> x.state(x.look(10)));
        forgets("person", x -> x.person(0));
        forgets("rule", x -> x.rule(0, 9, 0));
        forgets("pace", x -> bit(x.set(0, 0, 7)));
        forgets("on", x -> bit(x.set(1, 0, 1)));
        forgets("weak", x -> bit(x.set(2, 0, 10)));
        forgets("glasses", x -> bit(x.set(3, 1, 40)));
        forgets("next", x -> bit(x.set(4, 0, 2)));
        forgets("at", x -> bit(x.set(5, 0, x.look(3))));
        forgets("change", x -> bit(x.change(0, 1)));
        forgets("image", x -> bit(x.image(false)));
    }

    private static void forgets(String name, ToIntFunction<SevenUnsaid> call) {
        SevenUnsaid x = busy();
        due("before " + name, x.look(12), 10);
        call.applyAsInt(x);
        due("behind " + name, x.look(12), 0);
        due("undo behind " + name, x.undo(), false);
    }

    /** "but texts (the taking of THE IMAGE does not)". */
    private static void p26TextsDoNotForget() {
        SevenUnsaid x = busy();
        x.feed(0, 0, 0, 0, 0);
        due("feed", x.look(12), 10);
        x.end(3);
        due("end", x.look(12), 10);
        due("a fault", x.text(), NONE);
        due("text with a fault", x.look(12), 10);
        law(x, "err 1; err 2; err 3;");
        due("text", x.look(12), 10);
        x.image(true);
        due("the image", x.look(12), 10);
        due("undo", x.undo(), true);
        due("texts don't go back", x.look(11), 3);
        due("nine", x.look(12), 9);
    }

    /** "false if there is none". */
    private static void p27FalseIfThereIsNone() {
        due("a new one", new SevenUnsaid().image(false), false);
        idle("none taken", PromiseEdgeTest::full, 0, x -> bit(x.image(false)));
        idle("none taken of nobody", PromiseEdgeTest::empty, 0, x -> bit(x.image(false)));
    }

    /** "THE IMAGE: all that is and was told .. as it was when it was taken": of an empty object, too. */
    private static void p27OfAnEmptyObject() {
        SevenUnsaid x = new SevenUnsaid();
        due("taken", x.image(true), true);
        String then = looks(x);
        for (int k = 0; k < 8; k++) {
            x.person(50);
        }
        for (int k = 0; k < 6; k++) {
            x.rule(0, k, 1);
        }
        x.set(0, 0, 9);
        law(x, "err 500;");
        x.play(200);
        due("gone back", x.image(false), true);
        due("as it was", looks(x), then);
        due("nobody", x.of(0, 0), NONE);
        due("no rule", x.told(0, 0), NONE);
        due("no line", x.book(0, 0), NONE);
        due("he who comes is the first", x.person(3), 0);
        due("on seat 0", x.of(0, 2), 0);
        due("without a glass", x.of(0, 1), 0);
        due("a rule, the first", x.rule(1, 2, 0), 0);
        due("that does not turn", x.play(2) + x.look(5), 0);
    }

    /** The same, of a full one: it is full again. */
    private static void p27OfAFullObject() {
        SevenUnsaid x = full();
        x.text();
        x.image(true);
        String then = looks(x);
        String line = line99(x);
        x.undo();
        x.undo();
        x.set(1, 5, 0);
        x.set(2, 7, 50);
        x.set(3, 7, 600);
        x.change(0, 7);
        x.set(5, 0, 3);
        law(x, "err 1000 when number = 2;");
        x.play(5);
        due("another line 99", line99(x).equals(line), false);
        law(x, "");
        x.image(false);
        due("as it was, but for what can be undone", looks(x), then.substring(0, then.length() - 2) + "0");
        due("rule 5", x.told(5, 3), 1);
        due("weak of 7", x.of(7, 0), 8);
        due("glasses of 7", x.of(7, 1), 0);
        due("seat of 7", x.of(7, 2), 7);
        due("who is there", x.set(5, 0, 7) ? x.whose(x.look(2)) : NONE, 7);
        due("the last line", line99(x), line);
        due("a ninth", x.person(0), NONE);
        due("a seventh", x.rule(0, 9, 0), NONE);
    }

    private static String line99(SevenUnsaid x) {
        return x.book(99, 0) + " " + x.book(99, 1) + " " + x.book(99, 2) + " " + x.book(99, 3);
    }

    private static String looks(SevenUnsaid x) {
        StringBuilder all = new StringBuilder();
        for (int k = 0; k <= 12; k++) {
            all.append(' ').append(x.look(k));
        }
        return all.toString();
    }

    /** "but the TAPE, fault()". */
    private static void p27NotTheTapeNorTheFault() {
        SevenUnsaid x = people(0);
        law(x, "#");
        feed(x, "err 5;");
        x.image(true);
        law(x, " ");
        law(x, "err 5/0;");
        feed(x, "err 44;");
        x.image(false);
        due("the fault is the latest", x.fault(0), 2);
        due("its place", x.fault(1), 6);
        due("the tape is as it is", x.end(7) && !x.end(8), true);
        due("a law", x.text(), 1);
        due("odds", x.of(0, 3), 44);
    }

    /** "and what can be undone (nothing then)". */
    private static void p27NothingCanBeUndoneThen() {
        SevenUnsaid x = busy();
        x.image(true);
        due("ten", x.look(12), 10);
        x.image(false);
        due("nothing", x.look(12), 0);
        due("undo", x.undo(), false);
        x.play(2);
        due("two", x.look(12), 2);
    }

    /** "gone back to it may be more than once". */
    private static void p27MoreThanOnce() {
        SevenUnsaid x = busy();
        x.image(true);
        x.image(false);
        String then = looks(x);
        for (int k = 0; k < 5; k++) {
            x.play(20 + k);
            x.set(0, 0, k);
            due("gone back", x.image(false), true);
            due("as it was", looks(x), then);
        }
        due("gone back at once", x.image(false), true);
        due("as it was still", looks(x), then);
    }

    /** The image holds how the sixth rule turns or skips. */
    private static void p27TheLastRuleIsOfIt() {
        for (int turn = 0; turn <= 2; turn++) {
            SevenUnsaid x = people(0, 0, 0, 0);
            for (int k = 0; k < 5; k++) {
                x.rule(1, 99, 0);
            }
            x.image(true);
            x.rule(0, 1, turn);
            x.image(true);
            x.image(false);
            due("turn", x.told(5, 2), turn);
            x.play(1);
            int[] at = {1, 3, 2};
            due("at by turn " + turn, x.look(3), at[turn]);
        }
        SevenUnsaid x = people(0, 0, 0, 0);
        x.image(true);
        x.rule(0, 1, 1);
        x.image(false);
        x.rule(0, 1, 2);
        due("one that turned is gone", x.play(1) + x.look(3), 2);
        due("and told no more", x.told(0, 2), 2);
    }

    /** The image holds who was ahead, NONE at first. */
    private static void p27WhoWasAheadIsOfIt() {
        SevenUnsaid x = table(2, "err 1000;");
        x.image(true);
        x.play(1);
        x.image(false);
        x.play(1);
        due("nobody", x.book(0, 2), NONE);
        x.set(5, 0, 1);
        x.image(true);
        x.play(2);
        due("he himself", x.book(2, 2), 1);
        x.image(false);
        x.play(1);
        due("he before", x.book(1, 2), 0);
    }

    /** "NONE - 1 for another what." */
    private static void p28AnotherWhat() {
        idle("look(13)", PromiseEdgeTest::busy, NONE - 1, x -> x.look(13));
        for (int what : FAR_OUT) {
            idle("look(" + what + ")", PromiseEdgeTest::busy, NONE - 1, x -> x.look(what));
        }
        due("of a new one", new SevenUnsaid().look(-1), NONE - 1);
    }

    /** "(STATE as it is.)": what looks like an answer of NONE, too. */
    private static void p28StateAsItIs() {
        SevenUnsaid x = new SevenUnsaid();
        int[] states = {-1, -2, LOW, HIGH, 0};
        for (int s : states) {
            x.state(s);
            due("state " + s, x.look(10), s);
        }
    }

    /** The most that each can be. */
    private static void p28TheMostOfEach() {
        SevenUnsaid x = full();
        due("people", x.look(0), 8);
        due("rules", x.look(1), 6);
        due("lines of the book", x.look(9), 100);
        due("what can be undone", x.look(12), 10);
        x.end(0);
        law(x, "err 0;".repeat(16));
        due("lines of the law", x.look(11), 16);
        x.set(0, 0, 99);
        due("pace", x.look(6), 99);
        x.set(4, 0, 9999);
        due("next", x.look(2), 9999);
        x.set(5, 0, 7);
        due("at", x.look(3), 7);
        x.play(1);
        due("record", x.look(7), 9999);
    }
}
