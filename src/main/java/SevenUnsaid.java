import java.util.Arrays;

/** People at a round table who count, and say a word in place of numbers that a rule names. */
public final class SevenUnsaid {
    public static final int NONE = -1;

    private static final int LAST_NUMBER = 9999;
    private static final int MOST_PEOPLE = 8;
    private static final int MOST_RULES = 6;
    private static final int MOST_WEAK = 99;
    private static final int MOST_GLASSES = 9999;
    private static final int MOST_PACE = 99;
    private static final int MOST_PLAYED = 200;
    private static final int MOST_UNDONE = 10;
    private static final int MOST_LINES = 16;
    private static final int MOST_OPEN = 8;
    private static final int TAPE_LENGTH = 400;
    private static final int BOOK_LENGTH = 100;
    private static final int FEED_LENGTH = 20;
    private static final int FAR_WORDS = 999;
    private static final int FAR_SEATING = 60;
    private static final int MOST_SEATED = 6;
    private static final int MILLION = 1000000;
    private static final int THOUSAND = 1000;

    private static final int FIGURE = 0;
    private static final int MULTIPLE = 1;
    private static final int TURNS = 1;
    private static final int SKIPS = 2;

    /* What a token is. What is asked of a number comes first, so that its kind is its place among the facts. */
    private static final int END = 0;
    private static final int OF_NUMBER = 1;
    private static final int OF_WORDS = 2;
    private static final int OF_TURNED = 3;
    private static final int OF_WEAK = 4;
    private static final int OF_GLASSES = 5;
    private static final int OF_RUN = 6;
    private static final int OF_PACE = 7;
    private static final int BAD = 8;
    private static final int NUMBER = 9;
    private static final int ERR = 10;
    private static final int WHEN = 11;
    private static final int OR = 12;
    private static final int AND = 13;
    private static final int NOT = 14;
    /* No tokens, but parts of a law's code: a line's end, without and with a condition. */
    private static final int TAKE = 15;
    private static final int TAKE_IF = 16;

    private static final String MARKS = ";+-*/()<=>";

    private final Round now = new Round();
    private final Round kept = new Round();
    private boolean isKept;
    private final History history = new History();
    private final Thought thought = new Thought();
    private final Seating seats = new Seating();
    private final LawMaker lawMaker = new LawMaker();
    private int faultKind;
    private int faultPlace = NONE;

    public SevenUnsaid() {
    }

    public int state(int v) {
        int was = now.count.state;
        now.count.state = v;
        history.forget();
        return was;
    }

    public int person(int weak) {
        if (weak < 0 || weak > MOST_WEAK || now.table.people >= MOST_PEOPLE) {
            return NONE;
        }
        history.forget();
        return now.table.join(weak);
    }

    public int rule(int sort, int number, int turn) {
        if (!canBeRule(sort, number, turn) || now.rules.size >= MOST_RULES) {
            return NONE;
        }
        history.forget();
        return now.rules.append(sort, number, turn);
    }

    public boolean set(int what, int who, int v) {
        boolean done = tell(what, who, v);
        if (done) {
            history.forget();
        }
        return done;
    }

    public boolean change(int a, int b) {
        if (a == b || !now.table.isThere(a) || !now.table.isThere(b)) {
            return false;
        }
        now.table.swap(a, b);
        history.forget();
        return true;
    }

    public int feed(int a, int b, int c, int d, int e) {
        Tape tape = lawMaker.tape;
        if (tape.size + FEED_LENGTH > TAPE_LENGTH) {
            return NONE;
        }
        tape.put(a);
        tape.put(b);
        tape.put(c);
        tape.put(d);
        tape.put(e);
        return tape.size;
    }

    public boolean end(int n) {
        return lawMaker.tape.cut(n);
    }

    public int text() {
        faultKind = lawMaker.compile();
        faultPlace = faultKind == 0 ? NONE : lawMaker.tape.start;
        lawMaker.tape.cut(0);
        if (faultKind != 0) {
            return NONE;
        }
        now.law.copy(lawMaker.law);
        return now.law.lines;
    }

    public int fault(int what) {
        switch (what) {
            case 0:
                return faultKind;
            case 1:
                return faultPlace;
            default:
                return NONE;
        }
    }

    public int play(int n) {
        if (n < 1 || n > MOST_PLAYED || now.table.people == 0) {
            return NONE;
        }
        int erred = 0;
        int run = now.runAhead(now.rules);
        for (int k = 0; k < n; k++) {
            int mask = now.rules.mask(now.count.next);
            run = mask == 0 ? 0 : run + 1;
            if (playNumber(mask, run)) {
                erred++;
            }
            // No run goes on below 1, be it after an error or after the last number.
            if (now.count.next == 1) {
                run = 0;
            }
        }
        return erred;
    }

    public int of(int person, int what) {
        if (!now.table.isThere(person)) {
            return NONE;
        }
        switch (what) {
            case 0:
                return now.table.weakOf(person);
            case 1:
                return now.table.glassesOf(person);
            case 2:
                return now.table.seatOf(person);
            case 3:
                return oddsOfNext(person);
            default:
                return NONE;
        }
    }

    public int told(int rule, int what) {
        if (!now.rules.isThere(rule)) {
            return NONE;
        }
        switch (what) {
            case 0:
                return now.rules.sortOf(rule);
            case 1:
                return now.rules.numberOf(rule);
            case 2:
                return now.rules.turnOf(rule);
            case 3:
                return now.rules.isOn(rule) ? 1 : 0;
            default:
                return NONE;
        }
    }

    public int has(int number) {
        return isNumber(number) ? now.rules.mask(number) : NONE;
    }

    public int book(int i, int what) {
        return now.book.entry(i, what);
    }

    public int whose(int v) {
        return canComeTo(v) ? thought.sayerOf(now, v) : NONE;
    }

    public int get(int v) {
        return canComeTo(v) ? thought.chance(now, now.rules, v) : NONE;
    }

    public int hardest(int v) {
        if (!canComeTo(v)) {
            return NONE;
        }
        thought.chance(now, now.rules, v);
        return thought.hard;
    }

    public int words(int seat, int v) {
        if (seat < 0 || seat >= now.table.people || v < 1 || v > FAR_WORDS) {
            return NONE;
        }
        thought.countWords(now, v);
        return thought.wordsOf(seat);
    }

    public int sit(int v) {
        if (now.table.people == 0 || v < 1 || v > FAR_WORDS) {
            return NONE;
        }
        thought.countWords(now, v);
        return thought.bestSeat(now.table.people);
    }

    public int plain(int from, int to, int what) {
        if (!isSpan(from, to) || what < 0 || what > 2) {
            return NONE;
        }
        thought.countRuns(now.rules, from, to);
        if (what == 0) {
            return thought.plain;
        }
        return what == 1 ? thought.longest : thought.begins;
    }

    public int third(int sort, int number, int turn, int v) {
        if (!canBeRule(sort, number, turn) || !canComeTo(v)) {
            return NONE;
        }
        return thought.chance(now, thought.oneMore(now.rules, sort, number, turn), v);
    }

    public int fewest(int from, int to, int what) {
        if (!isSpan(from, to) || what < 0 || what > 2) {
            return NONE;
        }
        thought.tryRules(now.rules, from, to);
        if (what == 2) {
            return thought.left;
        }
        return what == 0 ? thought.bestSort : thought.bestNumber;
    }

    public int seating(int v, int what) {
        int people = now.table.people;
        if (people < 2 || people > MOST_SEATED || v < 1 || v > FAR_SEATING) {
            return NONE;
        }
        if (what != 0 && (what < 10 || what >= 10 + people)) {
            return NONE;
        }
        thought.layOut(now, seats, v);
        seats.search(people, v);
        return what == 0 ? seats.bestChance : seats.bestOn(what - 10);
    }

    public int behind(int person, int ahead) {
        if (person == ahead || !now.table.isThere(person) || !now.table.isThere(ahead)) {
            return NONE;
        }
        return now.book.pairs(person, ahead);
    }

    public boolean undo() {
        return history.goBack(now);
    }

    public boolean image(boolean taken) {
        if (taken) {
            kept.copy(now);
            isKept = true;
            return true;
        }
        if (!isKept) {
            return false;
        }
        now.copy(kept);
        history.forget();
        return true;
    }

    public int look(int what) {
        switch (what) {
            case 0:
                return now.table.people;
            case 1:
                return now.rules.size;
            case 2:
                return now.count.next;
            case 3:
                return now.count.at;
            case 4:
                return now.count.way;
            case 5:
                return now.count.turned;
            case 6:
                return now.pace;
            case 7:
                return now.count.record;
            case 8:
                return now.count.said;
            case 9:
                return now.book.size;
            case 10:
                return now.count.state;
            case 11:
                return now.law.lines;
            case 12:
                return history.size;
            default:
                return NONE - 1;
        }
    }

    private boolean tell(int what, int who, int v) {
        switch (what) {
            case 0:
                return tellPace(v);
            case 1:
                return now.rules.switchTo(who, v);
            case 2:
                return now.table.weaken(who, v);
            case 3:
                return now.table.fill(who, v);
            case 4:
                return tellNext(v);
            case 5:
                return tellAt(v);
            default:
                return false;
        }
    }

    private boolean tellPace(int v) {
        if (v < 0 || v > MOST_PACE) {
            return false;
        }
        now.pace = v;
        return true;
    }

    private boolean tellNext(int v) {
        if (!isNumber(v)) {
            return false;
        }
        now.count.next = v;
        return true;
    }

    private boolean tellAt(int v) {
        if (v < 0 || v >= now.table.people) {
            return false;
        }
        now.count.at = v;
        return true;
    }

    private boolean playNumber(int mask, int run) {
        int person = now.table.sitter(now.count.at);
        int odds = now.odds(person, now.count, mask, run);
        history.keep(now, person);
        boolean errs = odds > 0 && now.count.draw(THOUSAND) < odds;
        if (errs) {
            now.err(person);
        } else {
            now.say(person, mask);
        }
        return errs;
    }

    private int oddsOfNext(int person) {
        int mask = now.rules.mask(now.count.next);
        int run = mask == 0 ? 0 : now.runAhead(now.rules) + 1;
        return now.odds(person, now.count, mask, run);
    }

    private boolean canComeTo(int v) {
        return now.table.people > 0 && v >= now.count.next && v <= LAST_NUMBER;
    }

    private static boolean isNumber(int v) {
        return v >= 1 && v <= LAST_NUMBER;
    }

    private static boolean isSpan(int from, int to) {
        return from >= 1 && from <= to && to <= LAST_NUMBER;
    }

    private static boolean canBeRule(int sort, int number, int turn) {
        if (turn < 0 || turn > SKIPS) {
            return false;
        }
        if (sort == FIGURE) {
            return number >= 0 && number <= 9;
        }
        return sort == MULTIPLE && number >= 2 && number <= 99;
    }

    /** Who is there, and where each sits. */
    private static final class Table {
        int people;
        private final int[] weak = new int[MOST_PEOPLE];
        private final int[] glasses = new int[MOST_PEOPLE];
        private final int[] seat = new int[MOST_PEOPLE];
        private final int[] onSeat = new int[MOST_PEOPLE];

        void copy(Table other) {
            people = other.people;
            System.arraycopy(other.weak, 0, weak, 0, MOST_PEOPLE);
            System.arraycopy(other.glasses, 0, glasses, 0, MOST_PEOPLE);
            System.arraycopy(other.seat, 0, seat, 0, MOST_PEOPLE);
            System.arraycopy(other.onSeat, 0, onSeat, 0, MOST_PEOPLE);
        }

        int join(int howWeak) {
            if (people >= MOST_PEOPLE) {
                return NONE;
            }
            int person = people;
            weak[person] = howWeak;
            glasses[person] = 0;
            seat[person] = person;
            onSeat[person] = person;
            people++;
            return person;
        }

        boolean isThere(int person) {
            return person >= 0 && person < people && people <= MOST_PEOPLE;
        }

        int weakOf(int person) {
            return isThere(person) ? weak[person] : 0;
        }

        int glassesOf(int person) {
            return isThere(person) ? glasses[person] : 0;
        }

        int seatOf(int person) {
            return isThere(person) ? seat[person] : NONE;
        }

        int sitter(int where) {
            return isThere(where) ? onSeat[where] : NONE;
        }

        boolean weaken(int person, int v) {
            if (!isThere(person) || v < 0 || v > MOST_WEAK) {
                return false;
            }
            weak[person] = v;
            return true;
        }

        boolean fill(int person, int v) {
            if (!isThere(person) || v < 0 || v > MOST_GLASSES) {
                return false;
            }
            glasses[person] = v;
            return true;
        }

        void swap(int a, int b) {
            int seatA = seatOf(a);
            int seatB = seatOf(b);
            if (!isThere(seatA) || !isThere(seatB)) {
                return;
            }
            seat[a] = seatB;
            seat[b] = seatA;
            onSeat[seatA] = b;
            onSeat[seatB] = a;
        }

        int allGlasses() {
            int sum = 0;
            for (int k = 0; k < people && k < MOST_PEOPLE; k++) {
                sum += glasses[k];
            }
            return sum;
        }
    }

    /** What makes a number a word. One place more than can be told, for the rule that is only thought of. */
    private static final class Rules {
        int size;
        private final int[] sort = new int[MOST_RULES + 1];
        private final int[] number = new int[MOST_RULES + 1];
        private final int[] turn = new int[MOST_RULES + 1];
        private int on;
        private int turning;
        private int skipping;

        void copy(Rules other) {
            size = other.size;
            System.arraycopy(other.sort, 0, sort, 0, MOST_RULES + 1);
            System.arraycopy(other.number, 0, number, 0, MOST_RULES + 1);
            System.arraycopy(other.turn, 0, turn, 0, MOST_RULES + 1);
            on = other.on;
            turning = other.turning;
            skipping = other.skipping;
        }

        int append(int newSort, int newNumber, int newTurn) {
            if (size > MOST_RULES) {
                return NONE;
            }
            int rule = size;
            int bit = 1 << rule;
            sort[rule] = newSort;
            number[rule] = newNumber;
            turn[rule] = newTurn;
            on |= bit;
            turning = newTurn == TURNS ? turning | bit : turning & ~bit;
            skipping = newTurn == SKIPS ? skipping | bit : skipping & ~bit;
            size++;
            return rule;
        }

        boolean isThere(int rule) {
            return rule >= 0 && rule < size && rule <= MOST_RULES;
        }

        int sortOf(int rule) {
            return isThere(rule) ? sort[rule] : NONE;
        }

        int numberOf(int rule) {
            return isThere(rule) ? number[rule] : NONE;
        }

        int turnOf(int rule) {
            return isThere(rule) ? turn[rule] : NONE;
        }

        boolean isOn(int rule) {
            return isThere(rule) && (on >> rule & 1) == 1;
        }

        boolean switchTo(int rule, int v) {
            if (!isThere(rule) || v < 0 || v > 1) {
                return false;
            }
            on = v == 1 ? on | 1 << rule : on & ~(1 << rule);
            return true;
        }

        /** The rules that n has, a bit each. */
        int mask(int n) {
            if (on == 0) {
                return 0;
            }
            int figures = figuresOf(n);
            int found = 0;
            for (int k = 0; k < size && k <= MOST_RULES; k++) {
                if ((on >> k & 1) == 1 && holds(sort[k], number[k], n, figures)) {
                    found |= 1 << k;
                }
            }
            return found;
        }

        int turnsIn(int mask) {
            return Integer.bitCount(mask & turning);
        }

        int skipsIn(int mask) {
            return Integer.bitCount(mask & skipping);
        }

        /** How many words stand one behind another up to n. */
        int runUpTo(int n) {
            int run = 0;
            for (int k = n; k >= 1 && mask(k) != 0; k--) {
                run++;
            }
            return run;
        }

        private static boolean holds(int sort, int number, int n, int figures) {
            if (sort == FIGURE) {
                return (figures >> number & 1) == 1;
            }
            return number > 0 && n % number == 0;
        }

        /** The figures with which n is written, a bit each. */
        static int figuresOf(int n) {
            int figures = 0;
            int rest = n;
            for (int k = 0; k < 4 && rest > 0; k++) {
                figures |= 1 << rest % 10;
                rest /= 10;
            }
            return figures;
        }
    }

    /** How far the counting is, and what each number played may alter but glasses and the book. */
    private static final class Count {
        int next = 1;
        int at;
        int way = 1;
        int turned;
        int record;
        int said;
        int state;
        int last = NONE;

        void copy(Count other) {
            next = other.next;
            at = other.at;
            way = other.way;
            turned = other.turned;
            record = other.record;
            said = other.said;
            state = other.state;
            last = other.last;
        }

        void restart() {
            next = 1;
            way = 1;
            turned = 0;
        }

        void goToStart() {
            restart();
            at = 0;
        }

        void goOn(Rules rules, int mask, int seats) {
            turned = rules.turnsIn(mask) & 1;
            if (turned == 1) {
                way = -way;
            }
            if (seats > 0) {
                at = Math.floorMod(at + way * (1 + rules.skipsIn(mask)), seats);
            }
            next = next >= LAST_NUMBER ? 1 : next + 1;
        }

        int draw(int m) {
            state = state * 1664525 + 1013904223;
            return m > 0 ? (state >>> 8) % m : 0;
        }
    }

    /** The book: who erred on which number, behind whom. */
    private static final class Book {
        int size;
        private final int[] number = new int[BOOK_LENGTH];
        private final int[] erred = new int[BOOK_LENGTH];
        private final int[] ahead = new int[BOOK_LENGTH];
        private final int[] glasses = new int[BOOK_LENGTH];

        void copy(Book other) {
            size = other.size;
            System.arraycopy(other.number, 0, number, 0, BOOK_LENGTH);
            System.arraycopy(other.erred, 0, erred, 0, BOOK_LENGTH);
            System.arraycopy(other.ahead, 0, ahead, 0, BOOK_LENGTH);
            System.arraycopy(other.glasses, 0, glasses, 0, BOOK_LENGTH);
        }

        void write(int onNumber, int who, int whoAhead, int allGlasses) {
            if (size >= BOOK_LENGTH) {
                return;
            }
            number[size] = onNumber;
            erred[size] = who;
            ahead[size] = whoAhead;
            glasses[size] = allGlasses;
            size++;
        }

        int entry(int i, int what) {
            if (i < 0 || i >= size || i >= BOOK_LENGTH) {
                return NONE;
            }
            switch (what) {
                case 0:
                    return number[i];
                case 1:
                    return erred[i];
                case 2:
                    return ahead[i];
                case 3:
                    return glasses[i];
                default:
                    return NONE;
            }
        }

        int pairs(int person, int other) {
            int found = 0;
            for (int k = 0; k < size && k < BOOK_LENGTH; k++) {
                if (erred[k] == person && ahead[k] == other) {
                    found++;
                }
            }
            return found;
        }
    }

    /** All that an image holds. */
    private static final class Round {
        final Table table = new Table();
        final Rules rules = new Rules();
        final Count count = new Count();
        final Book book = new Book();
        final Law law = new Law();
        int pace;

        void copy(Round other) {
            table.copy(other.table);
            rules.copy(other.rules);
            count.copy(other.count);
            book.copy(other.book);
            law.copy(other.law);
            pace = other.pace;
        }

        /** How many words stand right ahead of the next number; counted only where the law asks for it. */
        int runAhead(Rules byRules) {
            return law.asksRun ? byRules.runUpTo(count.next - 1) : 0;
        }

        int odds(int person, Count where, int mask, int run) {
            return law.odds(where.next, Integer.bitCount(mask), where.turned,
                    table.weakOf(person), table.glassesOf(person), run, pace);
        }

        void err(int person) {
            table.fill(person, Math.min(MOST_GLASSES, table.glassesOf(person) + 1));
            book.write(count.next, person, count.last, table.allGlasses());
            count.last = person;
            count.restart();
        }

        void say(int person, int mask) {
            count.record = Math.max(count.record, count.next);
            count.said++;
            count.last = person;
            count.goOn(rules, mask, table.people);
        }
    }

    /** What stood before each of the latest numbers that were played. */
    private static final class History {
        int size;
        private int top;
        private final Count[] counts = new Count[MOST_UNDONE];
        private final int[] persons = new int[MOST_UNDONE];
        private final int[] glasses = new int[MOST_UNDONE];
        private final int[] lines = new int[MOST_UNDONE];

        History() {
            for (int k = 0; k < MOST_UNDONE; k++) {
                counts[k] = new Count();
            }
        }

        void forget() {
            size = 0;
        }

        void keep(Round round, int person) {
            top = Math.floorMod(top + 1, MOST_UNDONE);
            counts[top].copy(round.count);
            persons[top] = person;
            glasses[top] = round.table.glassesOf(person);
            lines[top] = round.book.size;
            size = Math.min(MOST_UNDONE, size + 1);
        }

        boolean goBack(Round round) {
            if (size == 0 || top < 0 || top >= MOST_UNDONE) {
                return false;
            }
            round.count.copy(counts[top]);
            round.table.fill(persons[top], glasses[top]);
            round.book.size = lines[top];
            top = Math.floorMod(top - 1, MOST_UNDONE);
            size--;
            return true;
        }
    }

    /** Numbers that are said in thought alone. */
    private static final class Thought {
        /* The rules that are tried as one more: each figure, then multiples. */
        private static final int FIGURES = 10;
        private static final int LEAST_MULTIPLE = 2;
        private static final int MOST_MULTIPLE = 20;
        private static final int CHOICES = FIGURES + MOST_MULTIPLE - LEAST_MULTIPLE + 1;

        int hard = NONE;
        int plain;
        int longest;
        int begins = NONE;
        int left;
        int bestSort;
        int bestNumber;
        private final Count here = new Count();
        private final Rules more = new Rules();
        private final int[] wordsOn = new int[MOST_PEOPLE];
        private final int[] taken = new int[CHOICES];

        int sayerOf(Round round, int v) {
            here.copy(round.count);
            for (int number = here.next; number < v; number++) {
                here.goOn(round.rules, round.rules.mask(number), round.table.people);
            }
            return round.table.sitter(here.at);
        }

        /** How likely they get to v; the hardest number on the way is noted. */
        int chance(Round round, Rules rules, int v) {
            here.copy(round.count);
            int chance = MILLION;
            int most = -1;
            int run = round.runAhead(rules);
            hard = NONE;
            for (int number = here.next; number <= v; number++) {
                int mask = rules.mask(number);
                run = mask == 0 ? 0 : run + 1;
                int odds = round.odds(round.table.sitter(here.at), here, mask, run);
                chance = chance * (THOUSAND - odds) / THOUSAND;
                if (odds > most) {
                    most = odds;
                    hard = number;
                }
                here.goOn(rules, mask, round.table.people);
            }
            return chance;
        }

        Rules oneMore(Rules rules, int sort, int number, int turn) {
            more.copy(rules);
            more.append(sort, number, turn);
            return more;
        }

        void countWords(Round round, int v) {
            Arrays.fill(wordsOn, 0);
            here.goToStart();
            for (int number = 1; number <= v; number++) {
                int mask = round.rules.mask(number);
                if (mask != 0 && here.at >= 0 && here.at < MOST_PEOPLE) {
                    wordsOn[here.at]++;
                }
                here.goOn(round.rules, mask, round.table.people);
            }
        }

        int wordsOf(int seat) {
            return seat >= 0 && seat < MOST_PEOPLE ? wordsOn[seat] : NONE;
        }

        int bestSeat(int people) {
            int best = 0;
            for (int k = 1; k < people && k < MOST_PEOPLE; k++) {
                if (wordsOn[k] < wordsOn[best]) {
                    best = k;
                }
            }
            return best;
        }

        /** Which seat each number comes to from the start, and its odds for each: neither hangs on who sits where. */
        void layOut(Round round, Seating seats, int v) {
            here.goToStart();
            int run = 0;
            for (int number = 1; number <= v; number++) {
                int mask = round.rules.mask(number);
                run = mask == 0 ? 0 : run + 1;
                seats.putSeat(number - 1, here.at);
                for (int person = 0; person < round.table.people; person++) {
                    seats.putOdds(number - 1, person, round.odds(person, here, mask, run));
                }
                here.goOn(round.rules, mask, round.table.people);
            }
        }

        void countRuns(Rules rules, int from, int to) {
            plain = 0;
            longest = 0;
            begins = NONE;
            int run = 0;
            for (int number = from; number <= to; number++) {
                if (rules.mask(number) == 0) {
                    plain++;
                    run = 0;
                } else {
                    run++;
                }
                if (run > longest) {
                    longest = run;
                    begins = number - run + 1;
                }
            }
        }

        void tryRules(Rules rules, int from, int to) {
            plain = 0;
            Arrays.fill(taken, 0);
            for (int number = from; number <= to; number++) {
                if (rules.mask(number) == 0) {
                    plain++;
                    takeBy(number);
                }
            }
            int best = 0;
            for (int k = 1; k < CHOICES; k++) {
                if (taken[k] > taken[best]) {
                    best = k;
                }
            }
            left = plain - taken[best];
            bestSort = best < FIGURES ? FIGURE : MULTIPLE;
            bestNumber = best < FIGURES ? best : best - FIGURES + LEAST_MULTIPLE;
        }

        private void takeBy(int number) {
            int figures = Rules.figuresOf(number);
            for (int k = 0; k < FIGURES; k++) {
                taken[k] += figures >> k & 1;
            }
            for (int by = LEAST_MULTIPLE; by <= MOST_MULTIPLE; by++) {
                if (number % by == 0) {
                    taken[FIGURES + by - LEAST_MULTIPLE]++;
                }
            }
        }
    }

    /** The order of people that gets farthest. */
    private static final class Seating {
        int bestChance;
        private final int[] seatAt = new int[FAR_SEATING];
        private final int[] odds = new int[FAR_SEATING * MOST_SEATED];
        private final int[] order = new int[MOST_SEATED];
        private final int[] best = new int[MOST_SEATED];

        void putSeat(int step, int seat) {
            if (step >= 0 && step < FAR_SEATING) {
                seatAt[step] = seat;
            }
        }

        void putOdds(int step, int person, int v) {
            if (step >= 0 && step < FAR_SEATING && person >= 0 && person < MOST_SEATED) {
                odds[step * MOST_SEATED + person] = v;
            }
        }

        int bestOn(int seat) {
            return seat >= 0 && seat < MOST_SEATED ? best[seat] : NONE;
        }

        void search(int people, int v) {
            if (people > MOST_SEATED || v > FAR_SEATING) {
                return;
            }
            for (int k = 0; k < MOST_SEATED; k++) {
                order[k] = k;
            }
            bestChance = NONE;
            boolean more = true;
            // Six people have 720 orders.
            for (int k = 0; k < 720 && more; k++) {
                int chance = chanceInOrder(v);
                if (chance > bestChance) {
                    bestChance = chance;
                    System.arraycopy(order, 0, best, 0, MOST_SEATED);
                }
                more = nextOrder(people);
            }
        }

        /** It never grows on the way, so an order that has fallen to the best one is given up. */
        private int chanceInOrder(int v) {
            int chance = MILLION;
            for (int k = 0; k < v && k < FAR_SEATING && chance > bestChance; k++) {
                int seat = seatAt[k];
                int person = seat >= 0 && seat < MOST_SEATED ? order[seat] : 0;
                if (person >= 0 && person < MOST_SEATED) {
                    chance = chance * (THOUSAND - odds[k * MOST_SEATED + person]) / THOUSAND;
                }
            }
            return chance;
        }

        /** The orders come seat by seat, the lesser first, so that the first best one is the one asked for. */
        private boolean nextOrder(int people) {
            int low = people - 2;
            while (low >= 0 && order[low] > order[low + 1]) {
                low--;
            }
            if (low < 0) {
                return false;
            }
            int high = people - 1;
            while (high > low && order[high] < order[low]) {
                high--;
            }
            exchange(low, high);
            int right = people - 1;
            for (int leftOne = low + 1; leftOne < right; leftOne++) {
                exchange(leftOne, right);
                right--;
            }
            return true;
        }

        private void exchange(int a, int b) {
            if (a >= 0 && a < MOST_SEATED && b >= 0 && b < MOST_SEATED) {
                int was = order[a];
                order[a] = order[b];
                order[b] = was;
            }
        }
    }

    /**
     * The law as code for a stack: a part of 0 or more is a number, one below 0 a fact or what joins the uppermost
     * values. Every token becomes one part at most.
     */
    private static final class Law {
        // A line's odds, two sides of or and and in each of nine depths, a comparison: far below this.
        private static final int STACK = 40;

        int lines;
        boolean asksRun;
        private int size;
        private final int[] code = new int[TAPE_LENGTH];
        private final int[] facts = new int[OF_PACE + 1];
        private final int[] stack = new int[STACK];
        private int height;

        void copy(Law other) {
            lines = other.lines;
            asksRun = other.asksRun;
            size = other.size;
            System.arraycopy(other.code, 0, code, 0, TAPE_LENGTH);
        }

        void clear() {
            lines = 0;
            asksRun = false;
            size = 0;
        }

        void emit(int part) {
            if (size < TAPE_LENGTH) {
                code[size] = part;
                size++;
            }
            if (part == -OF_RUN) {
                asksRun = true;
            }
        }

        int odds(int number, int words, int turned, int weak, int glasses, int run, int pace) {
            facts[OF_NUMBER] = number;
            facts[OF_WORDS] = words;
            facts[OF_TURNED] = turned;
            facts[OF_WEAK] = weak;
            facts[OF_GLASSES] = glasses;
            facts[OF_RUN] = run;
            facts[OF_PACE] = pace;
            height = 0;
            return Math.max(0, Math.min(THOUSAND, firstLine()));
        }

        private int firstLine() {
            for (int k = 0; k < size && k < TAPE_LENGTH; k++) {
                int part = code[k];
                if (part == -TAKE) {
                    return pop();
                }
                if (part == -TAKE_IF) {
                    boolean so = pop() != 0;
                    int value = pop();
                    if (so) {
                        return value;
                    }
                } else {
                    work(part);
                }
            }
            return 0;
        }

        private void work(int part) {
            if (part >= 0) {
                push(part);
            } else if (part >= -OF_PACE) {
                push(facts[-part]);
            } else if (part == -NOT) {
                push(1 - pop());
            } else {
                int right = pop();
                int left = pop();
                push(joined(-part, left, right));
            }
        }

        private static int joined(int by, int left, int right) {
            switch (by) {
                case '+':
                    return left + right;
                case '-':
                    return left - right;
                case '*':
                    return left * right;
                case '/':
                    return right == 0 ? 0 : left / right;
                case '<':
                    return left < right ? 1 : 0;
                case '=':
                    return left == right ? 1 : 0;
                case '>':
                    return left > right ? 1 : 0;
                case AND:
                    return left & right;
                case OR:
                    return left | right;
                default:
                    return 0;
            }
        }

        private void push(int v) {
            if (height < STACK) {
                stack[height] = v;
                height++;
            }
        }

        private int pop() {
            if (height == 0) {
                return 0;
            }
            height--;
            return stack[height];
        }
    }

    /** The bytes that were fed, and the tokens that they are cut into. */
    private static final class Tape {
        int size;
        int kind = END;
        int value;
        int start;
        private int at;
        private final byte[] bytes = new byte[TAPE_LENGTH];

        /** Four bytes come behind, the highest first. */
        void put(int four) {
            for (int shift = 24; shift >= 0; shift -= 8) {
                if (size < TAPE_LENGTH) {
                    bytes[size] = (byte) (four >> shift);
                    size++;
                }
            }
        }

        boolean cut(int n) {
            if (n < 0 || n > size) {
                return false;
            }
            size = n;
            return true;
        }

        void rewind() {
            at = 0;
        }

        void advance() {
            while (at < size && isBlank(sign(at))) {
                at++;
            }
            start = at;
            int sign = sign(at);
            if (at >= size) {
                kind = END;
            } else if (isLetter(sign)) {
                readWord();
            } else if (isDigit(sign)) {
                readNumber();
            } else {
                kind = MARKS.indexOf((char) sign) >= 0 ? sign : BAD;
                at++;
            }
        }

        private int sign(int place) {
            return place >= 0 && place < size && place < TAPE_LENGTH ? bytes[place] & 255 : 0;
        }

        private void readWord() {
            while (at < size && isLetter(sign(at))) {
                at++;
            }
            kind = keyword();
        }

        private void readNumber() {
            value = 0;
            while (at < size && isDigit(sign(at))) {
                value = value * 10 + sign(at) - '0';
                at++;
            }
            kind = at - start <= 4 ? NUMBER : BAD;
        }

        private int keyword() {
            if (spells("err")) {
                return ERR;
            } else if (spells("when")) {
                return WHEN;
            } else if (spells("or")) {
                return OR;
            } else if (spells("and")) {
                return AND;
            } else if (spells("not")) {
                return NOT;
            } else if (spells("number")) {
                return OF_NUMBER;
            } else if (spells("words")) {
                return OF_WORDS;
            } else if (spells("turned")) {
                return OF_TURNED;
            } else if (spells("weak")) {
                return OF_WEAK;
            } else if (spells("glasses")) {
                return OF_GLASSES;
            } else if (spells("run")) {
                return OF_RUN;
            } else if (spells("pace")) {
                return OF_PACE;
            }
            return BAD;
        }

        private boolean spells(String word) {
            if (word.length() != at - start) {
                return false;
            }
            for (int k = 0; k < word.length(); k++) {
                if (word.charAt(k) != sign(start + k)) {
                    return false;
                }
            }
            return true;
        }

        private static boolean isBlank(int sign) {
            return sign == ' ' || sign == '\n';
        }

        private static boolean isLetter(int sign) {
            return sign >= 'a' && sign <= 'z' || sign >= 'A' && sign <= 'Z';
        }

        private static boolean isDigit(int sign) {
            return sign >= '0' && sign <= '9';
        }
    }

    /** Makes a law of a tape, token by token; what is not joined yet waits on a stack. */
    private static final class LawMaker {
        private static final int FAULT_TOKEN = 1;
        private static final int FAULT_ZERO = 2;
        private static final int FAULT_MANY = 3;

        /* What may come next. */
        private static final int WANT_LINE = 0;
        private static final int WANT_CONDITION = 1;
        private static final int WANT_UNIT = 2;
        private static final int WANT_PART = 3;
        private static final int WANT_MORE = 4;
        private static final int WANT_JOIN = 5;

        /* Where a sum stands. */
        private static final int IN_ODDS = 0;
        private static final int ON_LEFT = 1;
        private static final int ON_RIGHT = 2;

        /* How tightly a sign binds; what waits is joined by all that binds less tightly than it. */
        private static final int BY_OR = 1;
        private static final int BY_AND = 2;
        private static final int BY_NOT = 3;
        private static final int BY_COMPARING = 4;
        private static final int BY_ADDING = 5;
        private static final int BY_TIMES = 6;

        // Or and and in each of nine depths, eight that open them, a comparison, a sum, a product: far below this.
        private static final int WAITING = 40;

        final Tape tape = new Tape();
        final Law law = new Law();
        private int want;
        private int side;
        private boolean conditional;
        private int brackets;
        private int open;
        private final int[] waiting = new int[WAITING];
        private int waits;

        /** The fault, or 0. */
        int compile() {
            begin();
            // A token has one sign at least, and the end is one more.
            for (int k = 0; k <= TAPE_LENGTH; k++) {
                tape.advance();
                if (tape.kind == END) {
                    return want == WANT_LINE ? 0 : FAULT_TOKEN;
                }
                int fault = take(tape.kind);
                if (fault != 0) {
                    return fault;
                }
            }
            return FAULT_TOKEN;
        }

        private void begin() {
            tape.rewind();
            law.clear();
            want = WANT_LINE;
            side = IN_ODDS;
            conditional = false;
            brackets = 0;
            open = 0;
            waits = 0;
        }

        private int take(int kind) {
            switch (want) {
                case WANT_LINE:
                    return takeLine(kind);
                case WANT_CONDITION:
                    return kind == NOT || kind == '(' ? takeOpening(kind) : takeUnit(kind);
                case WANT_UNIT:
                    return takeUnit(kind);
                case WANT_PART:
                    return takePart(kind);
                case WANT_MORE:
                    if (levelOf(kind) >= BY_ADDING) {
                        return takeReckoning(kind);
                    }
                    return side == ON_LEFT ? takeComparison(kind) : takeJoin(kind);
                default:
                    return takeJoin(kind);
            }
        }

        private int takeLine(int kind) {
            if (kind != ERR) {
                return FAULT_TOKEN;
            }
            if (law.lines >= MOST_LINES) {
                return FAULT_MANY;
            }
            side = IN_ODDS;
            conditional = false;
            want = WANT_UNIT;
            return 0;
        }

        private int takeOpening(int kind) {
            if (open >= MOST_OPEN) {
                return FAULT_MANY;
            }
            open++;
            if (kind == '(') {
                brackets++;
            }
            await(kind);
            return 0;
        }

        private int takeUnit(int kind) {
            if (kind == NUMBER) {
                law.emit(tape.value);
            } else if (kind >= OF_NUMBER && kind <= OF_PACE) {
                law.emit(-kind);
            } else {
                return FAULT_TOKEN;
            }
            want = WANT_MORE;
            return 0;
        }

        private int takePart(int kind) {
            if (kind != NUMBER) {
                return FAULT_TOKEN;
            }
            return tape.value == 0 ? FAULT_ZERO : takeUnit(kind);
        }

        private int takeReckoning(int kind) {
            return joinBy(kind, kind == '/' ? WANT_PART : WANT_UNIT);
        }

        private int takeComparison(int kind) {
            if (levelOf(kind) != BY_COMPARING) {
                return FAULT_TOKEN;
            }
            side = ON_RIGHT;
            return joinBy(kind, WANT_UNIT);
        }

        private int takeJoin(int kind) {
            if (kind == ';' && brackets == 0) {
                return endLine();
            }
            if (side == IN_ODDS) {
                return kind == WHEN ? takeWhen() : FAULT_TOKEN;
            }
            if (kind == OR || kind == AND) {
                side = ON_LEFT;
                return joinBy(kind, WANT_CONDITION);
            }
            return kind == ')' && brackets > 0 ? closeBracket() : FAULT_TOKEN;
        }

        private int takeWhen() {
            joinWaiting(BY_OR);
            conditional = true;
            side = ON_LEFT;
            want = WANT_CONDITION;
            return 0;
        }

        private int closeBracket() {
            joinWaiting(BY_OR);
            if (waits > 0) {
                waits--;
            }
            brackets--;
            open--;
            want = WANT_JOIN;
            return 0;
        }

        private int endLine() {
            joinWaiting(BY_OR);
            law.emit(conditional ? -TAKE_IF : -TAKE);
            law.lines++;
            want = WANT_LINE;
            return 0;
        }

        private int joinBy(int kind, int wantThen) {
            joinWaiting(levelOf(kind));
            await(kind);
            want = wantThen;
            return 0;
        }

        private void await(int kind) {
            if (waits < WAITING) {
                waiting[waits] = kind;
                waits++;
            }
        }

        private void joinWaiting(int level) {
            for (int k = waits - 1; k >= 0 && k < WAITING && levelOf(waiting[k]) >= level; k--) {
                if (waiting[k] == NOT) {
                    open--;
                }
                law.emit(-waiting[k]);
                waits = k;
            }
        }

        private static int levelOf(int kind) {
            switch (kind) {
                case OR:
                    return BY_OR;
                case AND:
                    return BY_AND;
                case NOT:
                    return BY_NOT;
                case '<':
                case '=':
                case '>':
                    return BY_COMPARING;
                case '+':
                case '-':
                    return BY_ADDING;
                case '*':
                case '/':
                    return BY_TIMES;
                default:
                    return 0;
            }
        }
    }
}
