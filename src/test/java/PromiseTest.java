/** Each promise of the document by its number: ordinary inputs, the edges that it names, wrong inputs. */
public final class PromiseTest extends TestKit {
    public static void main(String[] args) {
        newObject();
        state();
        person();
        rule();
        setTells();
        setRefuses();
        change();
        feed();
        end();
        text();
        lawReckons();
        lawCompares();
        oddsFacts();
        faultTokens();
        behindFaults();
        faultZero();
        faultMany();
        playSays();
        playErrs();
        playRefuses();
        of();
        told();
        has();
        book();
        bookIsFull();
        whose();
        get();
        hardest();
        words();
        sit();
        plain();
        third();
        fewest();
        seating();
        seatingInEachOrder();
        behind();
        undo();
        undoForgotten();
        image();
        imageOfAll();
        imageOfAnother();
        imageOfTheBook();
        look();
        finish("all promises are kept");
    }

    private static void newObject() {
        SevenUnsaid x = new SevenUnsaid();
        int[] first = {0, 0, 1, 0, 1, 0, 0, 0, 0, 0, 0, 0, 0};
        for (int k = 0; k < first.length; k++) {
            due("new: look(" + k + ")", x.look(k), first[k]);
        }
        due("new: of", x.of(0, 0), NONE);
        due("new: told", x.told(0, 0), NONE);
        due("new: book", x.book(0, 0), NONE);
        due("new: fault(0)", x.fault(0), 0);
        due("new: fault(1)", x.fault(1), NONE);
        due("new: undo", x.undo(), false);
        due("new: image", x.image(false), false);
        due("new: NONE", SevenUnsaid.NONE, -1);
    }

    private static void state() {
        SevenUnsaid x = people(0);
        due("state first", x.state(5), 0);
        due("state was", x.state(LOW), 5);
        due("state low", x.look(10), LOW);
        law(x, "err 1;");
        x.state(0);
        x.play(1);
        due("state drawn", x.look(10), 1013904223);
    }

    private static void person() {
        SevenUnsaid x = new SevenUnsaid();
        due("person(-1)", x.person(-1), NONE);
        due("person(100)", x.person(100), NONE);
        due("person low", x.person(LOW), NONE);
        for (int k = 0; k < 8; k++) {
            due("person " + k, x.person(k == 0 ? 0 : 99), k);
            due("his seat", x.of(k, 2), k);
            due("his glasses", x.of(k, 1), 0);
        }
        due("person nine", x.person(5), NONE);
        due("people", x.look(0), 8);
        due("weak 0", x.of(0, 0), 0);
        due("weak 7", x.of(7, 0), 99);
    }

    private static void rule() {
        SevenUnsaid x = new SevenUnsaid();
        int[][] bad = {{0, -1, 0}, {0, 10, 0}, {1, 1, 0}, {1, 0, 0}, {1, 100, 0}, {1, -7, 0}, {2, 5, 0}, {-1, 5, 0},
            {0, 5, -1}, {0, 5, 3}, {1, 5, 3}, {LOW, 5, 0}, {1, HIGH, 0}, {1, 5, HIGH}};
        for (int[] b : bad) {
            due("rule(" + b[0] + ", " + b[1] + ", " + b[2] + ")", x.rule(b[0], b[1], b[2]), NONE);
        }
        due("rule 0", x.rule(0, 0, 0), 0);
        due("rule 1", x.rule(0, 9, 1), 1);
        due("rule 2", x.rule(1, 2, 2), 2);
        due("rule 3", x.rule(1, 99, 0), 3);
        due("rule 4", x.rule(1, 99, 0), 4);
        due("rule 5", x.rule(1, 50, 0), 5);
        due("rule 6", x.rule(1, 50, 0), NONE);
        due("rules", x.look(1), 6);
        due("rule 5 is on", x.told(5, 3), 1);
    }

    private static void setTells() {
        SevenUnsaid x = people(10, 20);
        x.rule(0, 7, 0);
        x.rule(1, 5, 1);
        due("set pace", x.set(0, -5, 99), true);
        due("pace", x.look(6), 99);
        due("set pace 0", x.set(0, HIGH, 0), true);
        due("pace 0", x.look(6), 0);
        due("set off", x.set(1, 1, 0), true);
        due("rule 1 off", x.told(1, 3), 0);
        due("rule 0 still on", x.told(0, 3), 1);
        due("off has none", x.has(5), 0);
        due("set on", x.set(1, 1, 1), true);
        due("on has it", x.has(5), 2);
        due("set weak", x.set(2, 1, 99), true);
        due("weak", x.of(1, 0), 99);
        due("weak of the other", x.of(0, 0), 10);
        due("set glasses", x.set(3, 0, 9999), true);
        due("glasses", x.of(0, 1), 9999);
        due("glasses of the other", x.of(1, 1), 0);
        x.set(4, 0, 5);
        x.play(1);
        due("turned before", x.look(5), 1);
        due("set next", x.set(4, -9, 9999), true);
        due("next", x.look(2), 9999);
        due("the way stays", x.look(4), -1);
        due("turned stays", x.look(5), 1);
        due("set at", x.set(5, -9, 1), true);
        due("at", x.look(3), 1);
        due("set at 0", x.set(5, 0, 0), true);
        due("at 0", x.look(3), 0);
        due("set weak 0", x.set(2, 1, 0), true);
        due("weak 0", x.of(1, 0), 0);
        due("set glasses 0", x.set(3, 0, 0), true);
        due("glasses 0", x.of(0, 1), 0);
    }

    private static void setRefuses() {
        SevenUnsaid x = people(10, 20);
        x.rule(0, 7, 0);
        int[][] bad = {{0, 0, -1}, {0, 0, 100}, {1, -1, 0}, {1, 1, 0}, {1, 0, 2}, {1, 0, -1}, {2, 2, 5}, {2, -1, 5},
            {2, 0, 100}, {2, 0, -1}, {3, 2, 5}, {3, -1, 5}, {3, 0, 10000}, {3, 0, -1}, {4, 0, 0}, {4, 0, 10000},
            {5, 0, 2}, {5, 0, -1}, {6, 0, 0}, {-1, 0, 0}, {HIGH, 0, 0}, {2, LOW, 5}, {1, HIGH, 1}};
        for (int[] b : bad) {
            due("set(" + b[0] + ", " + b[1] + ", " + b[2] + ")", x.set(b[0], b[1], b[2]), false);
        }
        due("weak stays", x.of(0, 0), 10);
        due("glasses stay", x.of(0, 1), 0);
        due("next stays", x.look(2), 1);
        due("on stays", x.told(0, 3), 1);
        due("at of nobody", new SevenUnsaid().set(5, 0, 0), false);
    }

    private static void change() {
        SevenUnsaid x = people(1, 2, 3);
        due("change", x.change(0, 2), true);
        due("seat of 0", x.of(0, 2), 2);
        due("seat of 1", x.of(1, 2), 1);
        due("seat of 2", x.of(2, 2), 0);
        due("whose 1", x.whose(1), 2);
        due("change again", x.change(0, 1), true);
        due("seat of 0 then", x.of(0, 2), 1);
        due("seat of 1 then", x.of(1, 2), 2);
        due("change alike", x.change(1, 1), false);
        due("change none", x.change(0, 3), false);
        due("change none first", x.change(-1, 0), false);
        due("who comes then", x.person(4), 3);
        due("sits behind", x.of(3, 2), 3);
    }

    private static void feed() {
        SevenUnsaid x = people(30);
        for (int k = 1; k <= 20; k++) {
            due("feed " + k, x.feed(0x20202020, 0x0a0a0a0a, 0x20202020, 0x20202020, 0x20202020), 20 * k);
        }
        due("feed too much", x.feed(0, 0, 0, 0, 0), NONE);
        due("nothing came", x.text(), 0);
        due("blanks alone", x.fault(0), 0);
        // "err " "weak" "+  1" "2;  " and blanks
        due("feed", x.feed(0x65727220, 0x7765616b, 0x2b202031, 0x323b2020, 0x20202020), 20);
        due("a line", x.text(), 1);
        due("its odds", x.of(0, 3), 42);
        x.feed(0, 0, 0, 0, 0);
        due("381 and twenty", filledTo(381).feed(0, 0, 0, 0, 0), NONE);
        due("380 and twenty", filledTo(380).feed(0, 0, 0, 0, 0), 400);
    }

    private static SevenUnsaid filledTo(int n) {
        SevenUnsaid x = new SevenUnsaid();
        for (int k = 0; k < 20; k++) {
            x.feed(0, 0, 0, 0, 0);
        }
        x.end(n);
        return x;
    }

    private static void end() {
        SevenUnsaid x = new SevenUnsaid();
        due("end(0) of none", x.end(0), true);
        due("end(1) of none", x.end(1), false);
        x.feed(0x65727220, 0x353b6572, 0x72000000, 0, 0);
        due("end(-1)", x.end(-1), false);
        due("end low", x.end(LOW), false);
        due("end(21)", x.end(21), false);
        due("end(20)", x.end(20), true);
        due("end(6)", x.end(6), true);
        due("end(7) then", x.end(7), false);
        due("the first six", x.text(), 1);
        due("empty then", x.end(1), false);
    }

    private static void text() {
        SevenUnsaid x = people(30);
        due("empty", x.text(), 0);
        due("two lines", law(x, "err 5 when number = 1;\nerr 6;"), 2);
        due("lines", x.look(11), 2);
        due("first line", x.of(0, 3), 5);
        x.set(4, 0, 2);
        due("second line", x.of(0, 3), 6);
        due("sixteen lines", law(x, "err 1;".repeat(16)), 16);
        due("no blanks", law(x, "err7+1when1=1and2=2or3=4;"), 1);
        due("its odds", x.of(0, 3), 8);
        due("a fault", law(x, "err;"), NONE);
        due("the tape is empty then", x.feed(0, 0, 0, 0, 0), 20);
        x.end(0);
        due("a law of nothing", x.text(), 0);
        due("its odds", x.of(0, 3), 0);
        due("no fault", x.fault(0), 0);
        due("no place", x.fault(1), NONE);
        due("another what", x.fault(2), NONE);
        due("another what below", x.fault(-1), NONE);
    }

    private static void lawReckons() {
        due("sum", odds("err 100-20+3;"), 83);
        due("product first", odds("err 2+3*4;"), 14);
        due("product then", odds("err 3*4+2*5;"), 22);
        due("part from the left", odds("err 7*3/2;"), 10);
        due("part then product", odds("err 7/2*3;"), 9);
        due("parts", odds("err 100/3/3;"), 11);
        due("towards 0", odds("err 100 + glasses*0 - 7/2;"), 97);
        due("a negative part towards 0", odds("err 3 when 0-7*1/2 = 0-3;"), 3);
        due("held below", odds("err 1 - 5;"), 0);
        due("held above", odds("err 9999;"), 1000);
        due("the greatest", odds("err 1000;"), 1000);
        due("ints wrap", odds("err 9999*9999*9999;"), 0);
        due("ints wrap up", odds("err 9 when 9999*9999*9999 < 0;"), 9);
        due("leading noughts", odds("err 0012;"), 12);
        due("a negative one's part", odds("err number - weak + 20/0003;"), 0);
        due("no line is so", odds("err 5 when 1 = 2;"), 0);
        due("the first that is so", odds("err 5 when 1=2; err 6 when 1=1; err 7;"), 6);
        due("one without", odds("err 5 when 1=2; err 6; err 7 when 1=1;"), 6);
    }

    private static void lawCompares() {
        due("less", odds("err 1 when 1 < 2;"), 1);
        due("not less", odds("err 1 when 2 < 2;"), 0);
        due("more", odds("err 1 when 3 > 2;"), 1);
        due("not more", odds("err 1 when 2 > 2;"), 0);
        due("alike", odds("err 1 when 2 = 1 + 1;"), 1);
        due("sums on both sides", odds("err 1 when 2*3+1 > 4-1*2;"), 1);
        due("and before or", odds("err 1 when 1=1 or 1=2 and 1=2;"), 1);
        due("and before or, turned", odds("err 1 when 1=2 and 1=2 or 1=1;"), 1);
        due("brackets", odds("err 1 when (1=1 or 1=2) and 1=2;"), 0);
        due("not binds most", odds("err 1 when not 1=1 or 1=1;"), 1);
        due("not and", odds("err 1 when not 1=2 and 1=2;"), 0);
        due("not of brackets", odds("err 1 when not (1=2 and 1=2);"), 1);
        due("not not", odds("err 1 when not not 1=1;"), 1);
        due("brackets in brackets", odds("err 1 when ((1=2) or (not (1=2)));"), 1);
        due("not brackets and", odds("err 1 when not (1=1) or 2=2 and not (1=1);"), 0);
    }

    private static void oddsFacts() {
        due("number", odds("err number;"), 17);
        due("weak", odds("err weak;"), 30);
        due("glasses", odds("err glasses;"), 4);
        due("pace", odds("err pace;"), 9);
        SevenUnsaid x = people(0, 0);
        x.rule(0, 1, 0);
        x.rule(1, 2, 0);
        x.rule(1, 4, 1);
        law(x, "err words*100 + turned*50 + run;");
        x.set(4, 0, 3);
        due("plain", x.of(0, 3), 0);
        x.set(4, 0, 1);
        due("one, from the first on", x.of(0, 3), 101);
        x.set(4, 0, 2);
        due("two", x.of(0, 3), 102);
        x.set(4, 0, 8);
        due("two rules", x.of(0, 3), 201);
        x.set(4, 0, 14);
        due("8 is a word, 9 is not: 10 to 14", x.of(0, 3), 205);
        x.set(1, 1, 0);
        due("rules that are off don't count", x.of(0, 3), 105);
        x.set(4, 0, 4);
        x.set(1, 1, 1);
        x.play(1);
        due("turned", x.of(1, 3), 50);
        x.set(4, 0, 8);
        due("turned and words", x.of(1, 3), 251);
        SevenUnsaid y = people(0);
        y.rule(1, 2, 0);
        y.rule(1, 3, 0);
        law(y, "err run;");
        y.set(4, 0, 4);
        due("2, 3, 4", y.of(0, 3), 3);
    }

    private static void faultTokens() {
        fault("x", 1, 0);
        fault("err", 1, 3);
        fault("err ", 1, 4);
        fault("err 5", 1, 5);
        fault("err 5 \n ", 1, 8);
        fault(";", 1, 0);
        fault("err;", 1, 3);
        fault("err 12345;", 1, 4);
        fault("err 00000;", 1, 4);
        fault("err 5/00000;", 1, 6);
        fault("err five;", 1, 4);
        fault("Err 5;", 1, 0);
        fault("errweak;", 1, 0);
        fault("errz 5;", 1, 0);
        fault("errA 5;", 1, 0);
        fault("errZ 5;", 1, 0);
        fault("err_ 5;", 1, 3);
        fault("err -5;", 1, 4);
        fault("err (5);", 1, 4);
        fault("err 5 5;", 1, 6);
        fault("err 5+;", 1, 6);
        fault("err 5/weak;", 1, 6);
        fault("err 5/;", 1, 6);
        fault("err 5 < 6;", 1, 6);
        fault("err 5 and 6=6;", 1, 6);
        fault("err 5 when;", 1, 10);
        fault("err 5 when 5;", 1, 12);
        fault("err 5 when 5 = ;", 1, 15);
        fault("err 5 when 5 = 5 = 5;", 1, 17);
        fault("err 5 when 5 = 5 when 5 = 5;", 1, 17);
        fault("err 5 when 5 = 5);", 1, 16);
        fault("err 5 when (5 = 5;", 1, 17);
        fault("err 5 when (5) = 5;", 1, 13);
        fault("err 5 when 5 = (5);", 1, 15);
        fault("err 5 when 5 = not 5;", 1, 15);
        fault("err 5 when (5 = 5) + 1;", 1, 19);
        fault("err 5 when (5 = 5) 1;", 1, 19);
        fault("err 5 when (5 = 5) not 1 = 1;", 1, 19);
        fault("err 5 when 5 = 5 and;", 1, 20);
        fault("err 5 when 5 = 5 or or 5 = 5;", 1, 20);
        fault("err 5 when not;", 1, 14);
        fault("err 5 when ();", 1, 12);
        fault("err 5; 5;", 1, 7);
        fault("err 5; when 1 = 1;", 1, 7);
        fault("err 5;;", 1, 6);
        fault("err\t5;", 1, 3);
        fault("err 5\r;", 1, 5);
        fault("err 5\u00e9;", 1, 5);
        fault("err 5; #", 1, 7);
        fault("err 5; err 6", 1, 12);
        fault("err 5 err 6;", 1, 6);
        fault("err when;", 1, 4);
    }

    private static void behindFaults() {
        SevenUnsaid x = people(30);
        law(x, "err 5 when (");
        due("a line behind an open bracket", law(x, "err 6 when 1=1;"), 1);
        due("its odds", x.of(0, 3), 6);
        law(x, "err 5 when " + "not ".repeat(8));
        due("a line behind eight nots", law(x, "err 7 when " + "not ".repeat(8) + "1=1;"), 1);
        due("its odds then", x.of(0, 3), 7);
        law(x, "err 5 when not x");
        due("a line behind one not", law(x, "err 8;"), 1);
        due("its odds at last", x.of(0, 3), 8);
        law(x, "err 5 when 1=1");
        due("a line behind a condition", law(x, "err 9;"), 1);
        due("it has none", x.of(0, 3), 9);
        law(x, "err 5 + 7 * 2 /");
        due("a fault again", x.fault(0) * 100 + x.fault(1), 115);
        due("the law stays", x.of(0, 3), 9);
        due("none at last", law(x, "") + x.fault(0), 0);
        due("no place at last", x.fault(1), NONE);
    }

    private static void faultZero() {
        fault("err 5/0;", 2, 6);
        fault("err 5/ 0000;", 2, 7);
        fault("err 5*0/0;", 2, 8);
        fault("err 5 when 1 = 5/0;", 2, 17);
        fault("err 5/0; x", 2, 6);
        fault("err x 5/0;", 1, 4);
        due("0 is divided", odds("err 5 + 0/5;"), 5);
        due("by ten", odds("err 500/10;"), 50);
    }

    private static void faultMany() {
        fault("err 1;".repeat(17), 3, 96);
        fault("err 1;".repeat(16) + " err", 3, 97);
        fault("err 1;".repeat(16) + " er", 1, 97);
        fault("err 5 when " + "not ".repeat(9) + "1=1;", 3, 43);
        fault("err 5 when " + "(".repeat(9), 3, 19);
        fault("err 5 when " + "(not ".repeat(4) + "((1=1", 3, 31);
        fault("err 5 when " + "not(".repeat(4) + "not 1=1", 3, 27);
        due("eight nots", odds("err 5 when " + "not ".repeat(8) + "1=1;"), 5);
        due("eight brackets", odds("err 5 when " + "(".repeat(8) + "1=1" + ")".repeat(8) + ";"), 5);
        due("closed ones don't count", odds("err 5 when " + "(1=1) and ".repeat(9) + "1=1;"), 5);
        due("nots that are over", odds("err 5 when " + "not 1=2 and ".repeat(9) + "1=1;"), 5);
        due("nots that are over by or", odds("err 5 when " + "not (1=1) or ".repeat(9) + "1=1;"), 5);
        due("the next line is anew", odds("err 5 when " + "not ".repeat(7) + "1=1;err 6 when " + "(".repeat(8) + "1=1"
                + ")".repeat(8) + ";"), 6);
        due("eight deep, both sides", odds("err 5 when " + "1=2 or 1=1 and (".repeat(8) + "1=2 or 1=1 and 5+2*3=11"
                + ")".repeat(8) + ";"), 5);
    }

    private static void playSays() {
        SevenUnsaid x = people(1, 2, 3, 4, 5);
        x.rule(0, 7, 1);
        x.rule(1, 5, 2);
        x.rule(1, 10, 2);
        x.rule(1, 7, 1);
        due("play four", x.play(4), 0);
        due("at 4", x.look(3), 4);
        due("play 5", x.play(1), 0);
        due("5 skips one", x.look(3), 1);
        x.play(2);
        due("7 turns twice", x.look(3), 3);
        due("so it doesn't", x.look(4), 1);
        due("an even number", x.look(5), 0);
        x.play(3);
        due("10 skips two", x.look(3), 3);
        x.play(4);
        due("14 turns", x.look(4), -1);
        due("14 goes the other way", x.look(3), 0);
        due("14 has turned", x.look(5), 1);
        x.play(1);
        due("15 skips one backwards", x.look(3), 3);
        due("15 did not turn", x.look(5), 0);
        due("next", x.look(2), 16);
        due("record", x.look(7), 15);
        due("said", x.look(8), 15);
        due("no draw", x.look(10), 0);
        x.set(4, 0, 3);
        x.play(1);
        due("the record stays", x.look(7), 15);
        due("said one more", x.look(8), 16);
        x.set(4, 0, 9999);
        x.play(2);
        due("9999, then 1", x.look(2), 2);
        due("record 9999", x.look(7), 9999);
        due("play 200", x.play(200), 0);
        due("said all", x.look(8), 218);
    }

    private static void playErrs() {
        SevenUnsaid x = people(0, 0, 0);
        x.rule(1, 2, 1);
        // The first draw from state 0 is 1013904223 >>> 8 = 3960563, of 1000: 563.
        law(x, "err 563 when number = 2;");
        due("not below", x.play(3), 0);
        due("one draw alone", x.look(10), 1013904223);
        due("2 turned, 3 is said", x.look(3), 2);
        x = people(0, 0, 0);
        x.rule(1, 2, 1);
        law(x, "err 564 when number = 4;");
        due("below", x.play(4), 1);
        due("his glasses", x.of(2, 1), 1);
        due("next is 1", x.look(2), 1);
        due("the way is 1", x.look(4), 1);
        due("turned is 0", x.look(5), 0);
        due("at stays", x.look(3), 2);
        due("record", x.look(7), 3);
        due("said", x.look(8), 3);
        due("he said it on the word's way", x.book(0, 2), 0);
        due("then on", x.play(1), 0);
        due("from him on", x.look(3), 0);
        SevenUnsaid y = people(0);
        y.set(3, 0, 9999);
        law(y, "err 1000;");
        due("always", y.play(200), 200);
        due("9999 at most", y.of(0, 1), 9999);
        due("none said", y.look(8), 0);
        due("no record", y.look(7), 0);
        SevenUnsaid z = people(0);
        z.rule(1, 2, 0);
        z.rule(1, 3, 0);
        law(z, "err 1000 when run = 3 and number < 5;");
        due("an error on 4", z.play(8), 2);
        SevenUnsaid w = people(0);
        w.rule(1, 2, 0);
        w.rule(1, 3, 0);
        w.rule(0, 1, 0);
        law(w, "err 1000 when run = 3;");
        due("runs are counted anew behind an error", w.play(9), 3);
        w.set(4, 0, 9998);
        law(w, "err 1000 when number < 4 and run > number;");
        due("no run of words goes on over 9999", w.play(5), 0);
        SevenUnsaid t = people(0, 0);
        t.rule(1, 2, 1);
        law(t, "err 1000 when turned = 1;");
        due("an error on what comes behind a turn", t.play(3), 1);
        due("turned is 0 then", t.look(5), 0);
        due("his odds of 1", t.of(0, 3), 0);
        z.set(4, 0, 9998);
        law(z, "err 1000 when run > 0 and number = 1 or run > 1 and number = 2;");
        due("no run goes on over 9999", z.play(4), 0);
    }

    private static void playRefuses() {
        SevenUnsaid x = people(0);
        due("play(0)", x.play(0), NONE);
        due("play(-1)", x.play(-1), NONE);
        due("play(201)", x.play(201), NONE);
        due("play high", x.play(HIGH), NONE);
        due("nothing was done", x.look(8), 0);
        due("nobody", new SevenUnsaid().play(1), NONE);
    }

    private static void of() {
        SevenUnsaid x = people(11, 22);
        x.set(3, 1, 7);
        x.change(0, 1);
        law(x, "err weak + number*100;");
        due("weak", x.of(1, 0), 22);
        due("glasses", x.of(1, 1), 7);
        due("seat", x.of(1, 2), 0);
        due("odds of one who is not at", x.of(0, 3), 111);
        due("odds", x.of(1, 3), 122);
        due("what 4", x.of(0, 4), NONE);
        due("what -1", x.of(0, -1), NONE);
        due("person 2", x.of(2, 0), NONE);
        due("person -1", x.of(-1, 3), NONE);
        due("nothing is drawn", x.look(10), 0);
    }

    private static void told() {
        SevenUnsaid x = new SevenUnsaid();
        x.rule(0, 3, 2);
        x.rule(1, 44, 1);
        int[][] want = {{0, 3, 2, 1}, {1, 44, 1, 1}};
        for (int k = 0; k < 8; k++) {
            due("told(" + k / 4 + ", " + k % 4 + ")", x.told(k / 4, k % 4), want[k / 4][k % 4]);
        }
        x.set(1, 0, 0);
        due("told off", x.told(0, 3), 0);
        due("told(0, 4)", x.told(0, 4), NONE);
        due("told(0, -1)", x.told(0, -1), NONE);
        due("told(2, 0)", x.told(2, 0), NONE);
        due("told(-1, 0)", x.told(-1, 0), NONE);
    }

    private static void has() {
        SevenUnsaid x = new SevenUnsaid();
        x.rule(0, 0, 0);
        x.rule(0, 7, 0);
        x.rule(1, 7, 0);
        x.rule(1, 99, 0);
        due("no nought is written ahead", x.has(1), 0);
        due("has(10)", x.has(10), 1);
        due("has(7)", x.has(7), 6);
        due("has(70)", x.has(70), 7);
        due("has(14)", x.has(14), 4);
        due("has(99)", x.has(99), 8);
        due("has(7001)", x.has(7001), 3);
        due("has(9999)", x.has(9999), 8);
        due("has(9997)", x.has(9997), 2);
        due("has(6930)", x.has(6930), 13);
        x.set(1, 1, 0);
        due("one is off", x.has(70), 5);
        due("has(0)", x.has(0), NONE);
        due("has(10000)", x.has(10000), NONE);
        due("has(-7)", x.has(-7), NONE);
    }

    private static void book() {
        SevenUnsaid x = people(0, 0, 0);
        x.set(3, 2, 10);
        law(x, "err 1000 when number = 3; err 1000 when number = 1 and glasses = 11;");
        due("nobody ahead", x.book(0, 2), NONE);
        due("play", x.play(5), 2);
        int[][] want = {{3, 2, 1, 11}, {1, 2, 2, 12}};
        for (int k = 0; k < 8; k++) {
            due("book(" + k / 4 + ", " + k % 4 + ")", x.book(k / 4, k % 4), want[k / 4][k % 4]);
        }
        due("book(2, 0)", x.book(2, 0), NONE);
        due("book(-1, 0)", x.book(-1, 0), NONE);
        due("book(0, 4)", x.book(0, 4), NONE);
        due("book(0, -1)", x.book(0, -1), NONE);
        SevenUnsaid y = people(0, 0);
        law(y, "err 1000;");
        y.play(1);
        due("nobody was ahead at first", y.book(0, 2), NONE);
        y.set(5, 0, 1);
        y.play(1);
        due("who erred was ahead", y.book(1, 2), 0);
    }

    private static void bookIsFull() {
        SevenUnsaid x = people(0);
        law(x, "err 1000;");
        due("errors", x.play(101), 101);
        due("lines", x.look(9), 100);
        due("glasses", x.of(0, 1), 101);
        due("the last line", x.book(99, 3), 100);
        due("no line more", x.book(100, 0), NONE);
        x.undo();
        due("the line stays", x.look(9), 100);
        due("the glass is back", x.of(0, 1), 100);
        x.undo();
        due("the line goes back", x.look(9), 99);
        due("it is none then", x.book(99, 0), NONE);
    }

    private static void whose() {
        SevenUnsaid x = people(0, 0, 0, 0);
        x.rule(1, 3, 1);
        x.rule(1, 4, 2);
        int[] at = {0, 1, 2, 1, 3, 2, 3, 0, 2, 1, 0, 3, 1};
        for (int k = 0; k < at.length; k++) {
            due("whose(" + (k + 1) + ")", x.whose(k + 1), at[k]);
        }
        due("whose(0)", x.whose(0), NONE);
        due("whose(10000)", x.whose(10000), NONE);
        x.change(0, 3);
        due("who sits there", x.whose(5), 0);
        x.play(3);
        due("below next", x.whose(3), NONE);
        due("from now on", x.whose(5), 0);
        due("next", x.whose(4), 1);
        due("nothing stays", x.look(2), 4);
        x.set(4, 0, 9999);
        due("9999", x.whose(9999), 1);
        due("9998 is below", x.whose(9998), NONE);
        due("nobody", new SevenUnsaid().whose(1), NONE);
    }

    private static void get() {
        SevenUnsaid x = people(100 - 1, 1);
        x.rule(1, 2, 1);
        law(x, "err weak + turned*500;");
        // 1 by 0: 99; 2 by 1: 1; 3 by 0: 599; 4 by 1: 1; 5 by 0: 599
        due("get(1)", x.get(1), 901000);
        due("get(2)", x.get(2), 900099);
        due("get(3)", x.get(3), 360939);
        due("get(4)", x.get(4), 360578);
        due("get(0)", x.get(0), NONE);
        due("get(10000)", x.get(10000), NONE);
        due("far away", x.get(9999), 0);
        due("nobody drank", x.of(0, 1), 0);
        due("nothing was drawn", x.look(10), 0);
        x.set(4, 0, 2);
        due("below next", x.get(1), NONE);
        due("from next", x.get(2), 901000);
        due("nobody", new SevenUnsaid().get(1), NONE);
        law(x, "");
        due("no law", x.get(9999), 1000000);
        SevenUnsaid y = people(0);
        y.rule(1, 2, 0);
        y.rule(1, 3, 0);
        law(y, "err run*100;");
        y.set(4, 0, 4);
        due("the run ahead counts", y.get(4), 700000);
    }

    private static void hardest() {
        SevenUnsaid x = people(5);
        x.rule(0, 3, 0);
        x.rule(1, 3, 0);
        law(x, "err words*10;");
        due("all alike", x.hardest(2), 1);
        due("the first of several", x.hardest(40), 3);
        x.set(4, 0, 4);
        due("30 has both", x.hardest(40), 30);
        due("13 has one, 6 has one", x.hardest(13), 6);
        due("below next", x.hardest(3), NONE);
        due("above", x.hardest(10000), NONE);
        due("9999", x.hardest(9999), 30);
        due("nobody", new SevenUnsaid().hardest(1), NONE);
        law(x, "");
        due("no odds", x.hardest(9), 4);
    }

    private static void words() {
        SevenUnsaid x = people(0, 0, 0, 0);
        x.rule(1, 3, 1);
        x.rule(1, 4, 2);
        // The words 3, 4, 6, 8, 9, 12 come to the seats 2, 1, 2, 0, 2, 3.
        x.play(5);
        due("seat 0", x.words(0, 12), 1);
        due("seat 1", x.words(1, 12), 1);
        due("seat 2", x.words(2, 12), 3);
        due("seat 3", x.words(3, 12), 1);
        due("less far", x.words(2, 7), 2);
        due("up to 1", x.words(0, 1), 0);
        due("up to 1, a word", one(1).words(0, 1), 1);
        due("999", x.words(0, 999) + x.words(1, 999) + x.words(2, 999) + x.words(3, 999), 499);
        due("seat 4", x.words(4, 12), NONE);
        due("seat -1", x.words(-1, 12), NONE);
        due("up to 0", x.words(0, 0), NONE);
        due("up to 1000", x.words(0, 1000), NONE);
        due("nobody", new SevenUnsaid().words(0, 5), NONE);
    }

    /** One person, and one figure that isn't said. */
    private static SevenUnsaid one(int figure) {
        SevenUnsaid x = people(0);
        x.rule(0, figure, 0);
        return x;
    }

    private static void sit() {
        SevenUnsaid x = people(0, 0, 0, 0);
        x.rule(1, 3, 1);
        x.rule(1, 4, 2);
        due("up to 12", x.sit(12), 0);
        x.rule(1, 2, 0);
        x.set(1, 0, 0);
        x.set(1, 1, 0);
        due("the odd seats, the least", x.sit(12), 0);
        x.rule(0, 1, 0);
        due("1 is 0's, 2 is 1's", x.sit(2), 2);
        due("3 is plain", x.sit(4), 2);
        due("sit(0)", x.sit(0), NONE);
        due("sit(1000)", x.sit(1000), NONE);
        due("sit(1)", x.sit(1), 1);
        due("sit(999) is a seat", x.sit(999) >= 0, true);
        due("nobody", new SevenUnsaid().sit(5), NONE);
    }

    private static void plain() {
        SevenUnsaid x = new SevenUnsaid();
        due("no rules", x.plain(1, 9999, 0), 9999);
        due("no run", x.plain(1, 9999, 1), 0);
        due("none begins", x.plain(1, 9999, 2), NONE);
        x.rule(1, 2, 0);
        x.rule(1, 3, 0);
        // Words: 2 3 4, 6, 8 9 10, 12, 14 15 16, ..
        due("plain 1 .. 16", x.plain(1, 16, 0), 5);
        due("run", x.plain(1, 16, 1), 3);
        due("the first of several", x.plain(1, 16, 2), 2);
        due("those there alone", x.plain(4, 7, 1), 1);
        due("begins there", x.plain(4, 7, 2), 4);
        due("cut in front", x.plain(3, 9, 1), 2);
        due("cut in front begins", x.plain(3, 9, 2), 3);
        due("one number, a word", x.plain(9, 9, 1), 1);
        due("no word, no run", x.plain(7, 7, 1), 0);
        due("no word, no beginning", x.plain(7, 7, 2), NONE);
        due("one number, plain", x.plain(7, 7, 0), 1);
        due("up to the end", x.plain(9998, 9999, 1), 2);
        int[][] bad = {{0, 5, 0}, {5, 4, 0}, {1, 10000, 0}, {1, 5, 3}, {1, 5, -1}, {-3, 5, 0}, {LOW, HIGH, 0}};
        for (int[] b : bad) {
            due("plain(" + b[0] + ", " + b[1] + ", " + b[2] + ")", x.plain(b[0], b[1], b[2]), NONE);
            due("fewest(" + b[0] + ", " + b[1] + ", " + b[2] + ")", x.fewest(b[0], b[1], b[2]), NONE);
        }
    }

    private static void third() {
        SevenUnsaid x = people(0, 50);
        x.rule(1, 3, 0);
        law(x, "err words*100 + turned*10 + weak;");
        // With multiples of 3 that turn, one more: 1 by 0: 0; 2 by 1: 50; 3 by 0: 200; 4 by 1: 60
        due("third turns", x.third(1, 3, 1, 4), 714400);
        // One that skips: 1 by 0; 2 by 1; 3 by 0, 200, skips; 4 by 0
        due("third skips", x.third(1, 3, 2, 4), 760000);
        due("a figure", x.third(0, 1, 0, 1), 900000);
        due("nothing stays", x.look(1), 1);
        due("nor in thought", x.get(4), 812250);
        due("below next", x.third(0, 1, 0, 0), NONE);
        due("above", x.third(0, 1, 0, 10000), NONE);
        due("sort", x.third(2, 5, 0, 1), NONE);
        due("figure", x.third(0, 10, 0, 1), NONE);
        due("multiple", x.third(1, 1, 0, 1), NONE);
        due("turn", x.third(1, 2, 3, 1), NONE);
        for (int k = 0; k < 5; k++) {
            x.rule(1, 99, 0);
        }
        due("six are no hindrance", x.third(0, 1, 0, 1), 900000);
        due("and are six", x.look(1), 6);
        due("nobody", new SevenUnsaid().third(0, 1, 0, 1), NONE);
        SevenUnsaid y = people(0);
        y.rule(1, 2, 0);
        law(y, "err run*100;");
        y.set(4, 0, 4);
        due("the run ahead has it, too", y.third(1, 3, 0, 4), 700000);
        SevenUnsaid z = people(0, 100 / 2, 0, 20);
        z.rule(1, 2, 1);
        z.rule(1, 3, 2);
        law(z, "err weak;");
        // With one that skips at 1: the seats 0 2 1 3, the errors 0 0 50 20.
        due("those that are there turn", z.third(0, 1, 2, 3), 950000);
        due("and skip", z.third(0, 1, 2, 4), 931000);
        z.set(1, 0, 0);
        due("those that are off do not", z.third(0, 1, 2, 3), 980000);
    }

    private static void fewest() {
        SevenUnsaid x = new SevenUnsaid();
        due("sort", x.fewest(1, 20, 0), 0);
        due("1 .. 20: 1, 10 .. 19", x.fewest(1, 20, 1), 1);
        due("left", x.fewest(1, 20, 2), 9);
        due("1 .. 8", x.fewest(1, 8, 0), 1);
        due("even ones", x.fewest(1, 8, 1), 2);
        due("four left", x.fewest(1, 8, 2), 4);
        x.rule(1, 2, 0);
        // 1 3 5 7 9 are left: 9 and 3 by 3.
        due("of the odd ones", x.fewest(1, 9, 0), 1);
        due("by 3", x.fewest(1, 9, 1), 3);
        due("three left", x.fewest(1, 9, 2), 3);
        due("of several the first", x.fewest(7, 7, 0), 0);
        due("the figure 7", x.fewest(7, 7, 1), 7);
        due("none left", x.fewest(7, 7, 2), 0);
        due("none is there", x.fewest(8, 8, 1), 0);
        due("none is left of none", x.fewest(8, 8, 2), 0);
        for (int k = 0; k < 5; k++) {
            x.rule(1, 2, 0);
        }
        due("six are no hindrance", x.fewest(1, 9, 2), 3);
        SevenUnsaid y = new SevenUnsaid();
        for (int k = 1; k <= 3; k++) {
            y.rule(0, k, 0);
        }
        // 40 is plain, by its figures 0 and 4 alike: 0 is the first; 60 and 80 have 0, too; 20 as a multiple takes 40, 60, 80.
        due("0 comes first", y.fewest(40, 40, 1), 0);
        due("9999 numbers", y.fewest(1, 9999, 1), 2);
        due("as multiples", y.fewest(1, 9999, 0), 1);
    }

    private static void seating() {
        SevenUnsaid x = people(10, 900 / 10, 50);
        law(x, "err weak * number;");
        // 1 to 4 come to the seats 0 1 2 0: the weakest one sits at seat 1, the strongest at 0.
        due("get", x.seating(4, 0), (int) (1000000L * 990 / 1000 * 820 / 1000 * 850 / 1000 * 960 / 1000));
        due("seat 0", x.seating(4, 10), 0);
        due("seat 1", x.seating(4, 11), 1);
        due("seat 2", x.seating(4, 12), 2);
        due("seat 3", x.seating(4, 13), NONE);
        due("what 1", x.seating(4, 1), NONE);
        due("what 9", x.seating(4, 9), NONE);
        due("what -1", x.seating(4, -1), NONE);
        due("up to 0", x.seating(0, 0), NONE);
        due("up to 61", x.seating(61, 0), NONE);
        due("up to 60", x.seating(60, 0), 0);
        due("of several the first", x.seating(60, 10) * 100 + x.seating(60, 11) * 10 + x.seating(60, 12), 12);
        x.set(4, 0, 500);
        x.set(5, 0, 2);
        due("from the start", x.seating(1, 0), 990000);
        x.set(2, 0, 99);
        due("who is the strongest then", x.seating(1, 10), 2);
        due("nobody has moved", x.of(2, 2), 2);
        due("one", people(5).seating(1, 0), NONE);
        SevenUnsaid two = people(8, 3);
        law(two, "err weak;");
        due("two", two.seating(1, 10), 1);
        due("two, get", two.seating(1, 0), 997000);
        SevenUnsaid five = people(30, 10, 50, 20, 40);
        law(five, "err weak * number;");
        int[] weakestFirst = {2, 4, 0, 3, 1};
        for (int k = 0; k < 5; k++) {
            due("five, seat " + k, five.seating(5, 10 + k), weakestFirst[k]);
        }
        SevenUnsaid runs = people(10, 20, 30);
        runs.rule(1, 2, 0);
        runs.rule(1, 3, 0);
        law(runs, "err run * weak;");
        // 2, 3, 4 come to the seats 1, 2, 0, each with a longer run.
        due("by runs", runs.seating(4, 10) * 100 + runs.seating(4, 11) * 10 + runs.seating(4, 12), 21);
        due("by runs, get", runs.seating(4, 0), (int) (1000000L * 970 / 1000 * 960 / 1000 * 970 / 1000));
        due("seven", people(1, 2, 3, 4, 5, 6, 7).seating(1, 0), NONE);
        SevenUnsaid six = people(6, 5, 4, 3, 2, 1);
        law(six, "err weak * number;");
        due("six", six.seating(6, 10), 0);
        due("seat 5 of six", six.seating(6, 15), 5);
        due("six, less far", six.seating(2, 10) * 10 + six.seating(2, 11), 45);
        SevenUnsaid first = people(10, 20);
        first.rule(0, 1, 0);
        law(first, "err run * weak;");
        due("a run of one", first.seating(1, 0), 990000);
        SevenUnsaid turned = people(0, 0, 90);
        turned.rule(1, 1 + 1, 1);
        turned.set(3, 2, 5);
        // 1 is seat 0's, 2 seat 1's, 3 seat 0's again, 4 seat 2's.
        law(turned, "err glasses*10 + turned*weak*5;");
        due("turned", turned.seating(3, 12), 2);
        due("turned, farther: seats 1 and 2 are alike", turned.seating(4, 11), 1);
    }

    /** Each order of five can be the best: he who is weaker should have the lesser number. */
    private static void seatingInEachOrder() {
        for (int code = 0; code < 3125; code++) {
            int[] seat = {code % 5, code / 5 % 5, code / 25 % 5, code / 125 % 5, code / 625};
            int met = 0;
            for (int s : seat) {
                met |= 1 << s;
            }
            if (met != 31) {
                continue;
            }
            SevenUnsaid x = people(50 - 10 * seat[0], 50 - 10 * seat[1], 50 - 10 * seat[2], 50 - 10 * seat[3],
                    50 - 10 * seat[4]);
            law(x, "err weak * number;");
            for (int p = 0; p < 5; p++) {
                due("order " + code + ", person " + p, x.seating(5, 10 + seat[p]), p);
            }
        }
    }

    private static void behind() {
        SevenUnsaid x = people(0, 0, 0);
        law(x, "err 1000 when number = 2;");
        x.play(6);
        // 0 says 1, 1 errs; 1 says 1, 2 errs; 2 says 1, 0 errs.
        due("1 behind 0", x.behind(1, 0), 1);
        due("2 behind 1", x.behind(2, 1), 1);
        due("0 behind 2", x.behind(0, 2), 1);
        due("0 behind 1", x.behind(0, 1), 0);
        x.play(6);
        due("1 behind 0 again", x.behind(1, 0), 2);
        due("alike", x.behind(1, 1), NONE);
        due("person 3", x.behind(3, 1), NONE);
        due("ahead 3", x.behind(1, 3), NONE);
        due("ahead none", x.behind(1, NONE), NONE);
        due("person none", x.behind(-1, 1), NONE);
    }

    private static void undo() {
        SevenUnsaid x = people(0, 0);
        x.rule(1, 2, 1);
        law(x, "err 1000 when number = 3;");
        x.play(4);
        x.set(0, 0, 0);
        due("forgotten", x.undo(), false);
        law(x, "err 1000 when number = 4;");
        int[] looks = {2, 3, 4, 5, 7, 8, 9, 10};
        int[] was = new int[looks.length];
        for (int k = 0; k < looks.length; k++) {
            was[k] = x.look(looks[k]);
        }
        int glasses = x.of(0, 1) * 100 + x.of(1, 1);
        x.play(5);
        due("five are kept", x.look(12), 5);
        due("an error more", x.look(9) > was[6], true);
        for (int k = 0; k < 5; k++) {
            due("undo", x.undo(), true);
        }
        due("nothing then", x.undo(), false);
        for (int k = 0; k < looks.length; k++) {
            due("back: look(" + looks[k] + ")", x.look(looks[k]), was[k]);
        }
        due("glasses are back", x.of(0, 1) * 100 + x.of(1, 1), glasses);
        x.play(12);
        due("ten are kept", x.look(12), 10);
        for (int k = 0; k < 10; k++) {
            due("undo " + k, x.undo(), true);
        }
        due("no more than ten", x.undo(), false);
        SevenUnsaid y = people(0, 0);
        law(y, "err 1000 when glasses = 0 and number = 2;");
        y.play(1);
        y.play(1);
        y.undo();
        law(y, "err 1000;");
        y.play(1);
        due("who was ahead goes back, too", y.book(0, 2), 0);
        y.undo();
        y.undo();
        due("texts don't forget, nor go back", y.look(11), 1);
        y.play(1);
        due("nobody ahead", y.book(0, 2), NONE);
    }

    private static SevenUnsaid played() {
        SevenUnsaid x = people(1, 2);
        x.rule(1, 2, 0);
        x.play(3);
        return x;
    }

    private static void undoForgotten() {
        SevenUnsaid x = played();
        x.state(1);
        due("state forgets", x.look(12), 0);
        x = played();
        x.person(100);
        x.rule(2, 2, 2);
        x.set(0, 0, 100);
        x.change(0, 0);
        x.image(false);
        x.play(0);
        law(x, "err");
        law(x, "err 1;");
        x.image(true);
        x.get(9);
        x.third(1, 2, 0, 9);
        x.seating(9, 0);
        due("what is refused or thought forgets nothing", x.look(12), 3);
        x.person(1);
        due("person forgets", x.look(12), 0);
        x = played();
        x.rule(0, 1, 0);
        due("rule forgets", x.look(12), 0);
        x = played();
        x.change(0, 1);
        due("change forgets", x.look(12), 0);
        for (int what = 0; what < 6; what++) {
            x = played();
            x.set(what, 0, 1);
            due("set(" + what + ") forgets", x.look(12), 0);
        }
        x = played();
        x.image(true);
        x.play(2);
        x.image(false);
        due("going back to the image forgets", x.look(12), 0);
    }

    private static void image() {
        SevenUnsaid x = people(10, 20);
        x.rule(1, 2, 1);
        law(x, "err 1000 when number = 3;");
        x.set(0, 0, 5);
        x.play(4);
        due("taken", x.image(true), true);
        int[] was = new int[13];
        for (int k = 0; k < 13; k++) {
            was[k] = x.look(k);
        }
        due("can be undone still", x.look(12), 4);
        for (int time = 0; time < 2; time++) {
            x.person(5);
            x.change(0, 2);
            x.rule(0, 3, 2);
            x.set(1, 0, 0);
            x.set(2, 0, 77);
            x.set(3, 1, 88);
            x.set(0, 0, 6);
            x.state(time + 3);
            law(x, "err 1000 when number = 2; err 9;");
            x.play(9);
            law(x, "err 5/0;");
            x.feed(0, 0, 0, 0, 0);
            due("gone back", x.image(false), true);
            for (int k = 0; k < 12; k++) {
                due("image: look(" + k + ")", x.look(k), was[k]);
            }
            due("nothing can be undone", x.undo(), false);
            due("weak", x.of(0, 0), 10);
            due("glasses", x.of(0, 1) + x.of(1, 1), 1);
            due("seat", x.of(0, 2), 0);
            due("rule on", x.told(0, 3), 1);
            due("the rule that turns", x.has(6), 1);
            due("odds of the law", x.get(3), 0);
            due("the book", x.book(0, 0), 3);
            due("the fault is not of it", x.fault(0), 2);
            due("its place", x.fault(1), 6);
            due("the tape is not of it", x.end(20), true);
            x.end(0);
        }
        due("who sits on seat 1", x.whose(2), 1);
        due("it turns", x.play(1), 0);
        due("its way", x.look(4), -1);
        x.image(false);
        due("who was ahead is of it", lastBehind(x), 0);
        x.set(0, 0, 9);
        x.image(true);
        x.set(0, 0, 8);
        x.image(false);
        due("taken anew", x.look(6), 9);
    }

    private static void imageOfAll() {
        SevenUnsaid x = people(0, 0, 0);
        x.rule(1, 5, 2);
        x.rule(1, 7, 1);
        law(x, "err 1000 when number = 2;");
        x.play(4);
        x.change(0, 2);
        x.image(true);
        law(x, "err 1000;");
        x.undo();
        x.undo();
        SevenUnsaid y = people(0, 0, 0);
        y.rule(0, 5, 0);
        y.image(true);
        y.image(false);
        due("a turn of none", y.told(0, 2), 0);
        x.change(1, 2);
        x.rule(0, 3, 1);
        x.image(false);
        int[][] want = {{2, 1, 0, 1}, {2, 2, 1, 2}};
        for (int k = 0; k < 8; k++) {
            due("image: book(" + k / 4 + ", " + k % 4 + ")", x.book(k / 4, k % 4), want[k / 4][k % 4]);
        }
        due("image: seats", x.of(0, 2) * 100 + x.of(1, 2) * 10 + x.of(2, 2), 210);
        due("image: rule 0", x.told(0, 0) * 1000 + x.told(0, 1) * 10 + x.told(0, 2), 1052);
        due("image: rule 1", x.told(1, 0) * 1000 + x.told(1, 1) * 10 + x.told(1, 2), 1071);
        due("image: whose", x.whose(1) * 100 + x.whose(2) * 10 + x.whose(3), 21);
        law(x, "err 1000;");
        x.play(5);
        x.image(false);
        due("image: two lines again", x.look(9), 2);
        x.set(4, 0, 5);
        x.play(3);
        due("image: 5 skips, 7 turns", x.look(3), 1);
    }

    private static void imageOfAnother() {
        SevenUnsaid x = people(0, 0);
        x.rule(1, 2, 1);
        law(x, "err 1000;");
        x.play(1);
        x.image(true);
        x.state(0);
        x.set(5, 0, 1);
        x.play(1);
        x.image(true);
        due("the second line", x.book(1, 1), 1);
        x.image(false);
        due("the second line of the image", x.book(1, 0) * 100 + x.book(1, 1) * 10 + x.book(1, 2), 110);
        due("its glasses", x.book(1, 3), 2);
    }

    private static void imageOfTheBook() {
        SevenUnsaid x = people(0, 0);
        law(x, "err 1000 when number = 2;");
        x.play(2);
        x.image(true);
        x.undo();
        x.undo();
        x.set(3, 1, 50);
        law(x, "err 1000;");
        x.play(1);
        int[] then = {1, 0, NONE, 51};
        int[] before = {2, 1, 0, 1};
        for (int k = 0; k < 4; k++) {
            due("written anew: book(0, " + k + ")", x.book(0, k), then[k]);
        }
        x.image(false);
        for (int k = 0; k < 4; k++) {
            due("of the image: book(0, " + k + ")", x.book(0, k), before[k]);
        }
    }

    /** Who was ahead of an error that comes at once. */
    private static int lastBehind(SevenUnsaid x) {
        law(x, "err 1000;");
        x.play(1);
        return x.book(x.look(9) - 1, 2);
    }

    private static void look() {
        SevenUnsaid x = people(1, 2, 3);
        x.rule(1, 4, 1);
        x.set(0, 0, 44);
        law(x, "err 1; err 2;");
        x.state(77);
        law(x, "err 1000 when number = 7;err 0;");
        x.play(7);
        x.state(5);
        x.play(4);
        // 1 .. 4 from seat 0: 4 turns; 5, 6, then 7 erred at seat 0: from there 1 .. 4 again.
        int[] want = {3, 1, 5, 2, -1, 1, 44, 6, 10, 1, 5, 2, 4};
        for (int k = 0; k < want.length; k++) {
            due("look(" + k + ")", x.look(k), want[k]);
        }
        due("look(13)", x.look(13), NONE - 1);
        due("look(-1)", x.look(-1), NONE - 1);
        due("look high", x.look(HIGH), NONE - 1);
    }
}
