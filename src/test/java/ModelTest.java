import java.util.ArrayDeque;
import java.util.ArrayList;
import java.util.Arrays;
import java.util.List;
import java.util.Random;

/** Long runs of calls, drawn with fixed seeds, on the class and on a slow model written straight from the document. */
public final class ModelTest {
    private static int wrong;

    public static void main(String[] args) {
        int runs = args.length > 0 ? Integer.parseInt(args[0]) : 80;
        long first = args.length > 1 ? Long.parseLong(args[1]) : 1;
        for (long seed = first; seed < first + runs && wrong == 0; seed++) {
            new Run(seed).go();
        }
        System.out.println(wrong == 0 ? runs + " runs as the model" : "the model was not met");
        if (wrong != 0) {
            System.exit(1);
        }
    }

    /** One run of 512 calls. */
    private static final class Run {
        private final Random random;
        private final long seed;
        private final SevenUnsaid real = new SevenUnsaid();
        private final Model model = new Model();
        private final List<String> calls = new ArrayList<>();
        private int left = 512;

        Run(long seed) {
            this.seed = seed;
            random = new Random(seed);
        }

        void go() {
            int people = random.nextInt(9);
            for (int k = 0; k < people; k++) {
                call("person", random.nextInt(100));
            }
            int rules = random.nextInt(7);
            for (int k = 0; k < rules; k++) {
                call("rule", random.nextInt(2), 2 + random.nextInt(9), random.nextInt(3));
            }
            if (random.nextInt(8) > 0) {
                write(lawText());
            }
            while (left > 0 && wrong == 0) {
                step();
            }
        }

        private void step() {
            switch (random.nextInt(36)) {
                case 0 -> call("state", random.nextInt(3) == 0 ? random.nextInt() : random.nextInt(10));
                case 1 -> call("person", edge(0, 99));
                case 2 -> call("rule", edge(0, 1), edge(0, 99), edge(0, 2));
                case 3, 4 -> setSomething();
                case 5 -> call("change", edge(0, 4), edge(0, 4));
                case 6 -> write(lawText());
                case 7 -> write(spoilt(lawText()));
                case 8 -> call("end", edge(0, 400));
                case 9 -> call("fault", edge(0, 1));
                case 10, 11, 12, 13 -> call("play", random.nextInt(4) == 0 ? edge(1, 200) : 1 + random.nextInt(12));
                case 14, 15 -> call("of", edge(0, 7), edge(0, 3));
                case 16 -> call("told", edge(0, 5), edge(0, 3));
                case 17 -> call("has", edge(1, 9999));
                case 18, 19 -> call("book", random.nextInt(3) == 0 ? edge(0, 99) : random.nextInt(12), edge(0, 3));
                case 20 -> call("whose", far());
                case 21 -> call("get", far());
                case 22 -> call("hardest", far());
                case 23 -> call("words", edge(0, 7), edge(1, 999));
                case 24 -> call("sit", edge(1, 999));
                case 25 -> span("plain");
                case 26 -> call("third", edge(0, 1), edge(2, 9), edge(0, 2), far());
                case 27 -> span("fewest");
                case 28 -> call("seating", edge(1, 60), random.nextInt(3) == 0 ? edge(0, 16) : 10 + random.nextInt(6));
                case 29 -> call("behind", edge(0, 7), edge(0, 7));
                case 30, 31 -> call("undo");
                case 32 -> call("image", random.nextInt(3) == 0 ? 1 : 0);
                case 33 -> call("feed", random.nextInt(), random.nextInt(), 0, -1, 538976288);
                default -> call("look", edge(0, 12));
            }
        }

        private void setSomething() {
            switch (random.nextInt(7)) {
                case 0 -> call("set", 0, random.nextInt(), edge(0, 99));
                case 1 -> call("set", 1, edge(0, 5), edge(0, 1));
                case 2 -> call("set", 2, edge(0, 7), edge(0, 99));
                case 3 -> call("set", 3, edge(0, 7), edge(0, 9999));
                case 4 -> call("set", 4, random.nextInt(), random.nextInt(3) == 0 ? edge(1, 9999) : 1 + random.nextInt(90));
                case 5 -> call("set", 5, random.nextInt(), edge(0, 7));
                default -> call("set", edge(0, 6), edge(0, 5), edge(0, 9));
            }
        }

        private void span(String name) {
            int from = random.nextInt(8) == 0 ? edge(1, 9999) : 1 + random.nextInt(300);
            int to = random.nextInt(8) == 0 ? edge(1, 9999) : from + random.nextInt(200);
            call(name, from, to, edge(0, 2));
        }

        private int far() {
            return random.nextInt(6) == 0 ? edge(1, 9999) : model.next + random.nextInt(40) - 2;
        }

        /** Mostly from low .. high, now and then at its edges, beside them, or anywhere. */
        private int edge(int low, int high) {
            return switch (random.nextInt(24)) {
                case 0 -> low;
                case 1 -> high;
                case 2 -> random.nextBoolean() ? low - 1 : high + 1;
                case 3 -> random.nextInt(5) == 0 ? random.nextInt() : low;
                case 4 -> random.nextInt(5) == 0 ? (random.nextBoolean() ? Integer.MAX_VALUE : Integer.MIN_VALUE) : high;
                default -> low + random.nextInt(high - low + 1);
            };
        }

        private void write(String text) {
            int sent = 0;
            while (sent < text.length()) {
                int[] five = new int[5];
                for (int k = 0; k < 20; k++) {
                    int sign = sent + k < text.length() ? text.charAt(sent + k) & 255 : 32;
                    five[k / 4] = five[k / 4] << 8 | sign;
                }
                call("feed", five[0], five[1], five[2], five[3], five[4]);
                sent += 20;
            }
            call("end", model.tape.size() - (sent - text.length()));
            call("text");
            call("fault", 0);
            call("fault", 1);
            call("of", random.nextInt(3), 3);
        }

        private String lawText() {
            StringBuilder text = new StringBuilder();
            int lines = random.nextInt(20) == 0 ? 15 + random.nextInt(4) : random.nextInt(5);
            for (int k = 0; k < lines; k++) {
                text.append("err").append(gap()).append(sum(lines > 10 ? 1 : 3));
                if (lines <= 10 && random.nextInt(4) > 0) {
                    text.append(" when ").append(either(random.nextInt(6) == 0 ? 10 : 3));
                }
                text.append(random.nextBoolean() ? ";" : " ;\n");
            }
            return text.toString();
        }

        private String gap() {
            return random.nextInt(3) == 0 ? "\n " : " ";
        }

        private String either(int depth) {
            String text = both(depth);
            for (int k = 0; k < 2 && random.nextInt(4) == 0; k++) {
                text += " or " + both(depth);
            }
            return text;
        }

        private String both(int depth) {
            String text = condition(depth);
            for (int k = 0; k < 2 && random.nextInt(4) == 0; k++) {
                text += " and " + condition(depth);
            }
            return text;
        }

        private String condition(int depth) {
            int kind = random.nextInt(depth > 5 ? 10 : 4);
            if (depth > 0 && (kind == 0 || kind > 6)) {
                return "not " + condition(depth - 1);
            }
            if (depth > 0 && (kind == 1 || kind > 3)) {
                return "(" + either(depth - 1) + ")";
            }
            return sum(2) + "<=>".charAt(random.nextInt(3)) + sum(2);
        }

        private String sum(int most) {
            String text = term();
            for (int k = 1; k < most && random.nextInt(2) == 0; k++) {
                text += (random.nextBoolean() ? "+" : " - ") + term();
            }
            return text;
        }

        private String term() {
            String text = unit();
            for (int k = 0; k < 3 && random.nextInt(3) == 0; k++) {
                if (random.nextBoolean()) {
                    text += "*" + unit();
                } else {
                    text += "/" + (random.nextInt(40) == 0 ? "0" : "" + (1 + random.nextInt(20)));
                }
            }
            return text;
        }

        private String unit() {
            String[] names = {"number", "words", "turned", "weak", "glasses", "run", "pace"};
            if (random.nextBoolean()) {
                return names[random.nextInt(names.length)];
            }
            return switch (random.nextInt(8)) {
                case 0 -> "" + random.nextInt(10000);
                case 1 -> "0" + random.nextInt(100);
                case 2, 3, 4 -> "" + random.nextInt(300);
                default -> "" + random.nextInt(8);
            };
        }

        private String spoilt(String text) {
            String[] bits = {"err", "when", "or", "and", "not", "(", ")", ";", "+", "-", "*", "/", "<", "=", ">", "7",
                "12345", "0", "/0", "/00", "x", "Err", "\t", "#", "\u00e9", "run", " ", "\n", "errerr", "99999"};
            StringBuilder spoilt = new StringBuilder(text);
            int times = 1 + random.nextInt(3);
            for (int k = 0; k < times; k++) {
                int place = random.nextInt(spoilt.length() + 1);
                switch (random.nextInt(4)) {
                    case 0 -> spoilt.setLength(place);
                    case 1 -> spoilt.delete(place, Math.min(spoilt.length(), place + 1 + random.nextInt(4)));
                    default -> spoilt.insert(place, bits[random.nextInt(bits.length)]);
                }
            }
            return spoilt.toString();
        }

        private void call(String name, int... a) {
            if (left == 0 || wrong > 0) {
                return;
            }
            left--;
            calls.add(name + Arrays.toString(a));
            long due = onModel(name, a);
            long got = onReal(name, a);
            if (got != due) {
                wrong++;
                int from = Math.max(0, calls.size() - 40);
                calls.subList(from, calls.size()).forEach(System.out::println);
                System.out.println("seed " + seed + ", call " + calls.size() + ": answered " + got + ", due is " + due);
            }
        }

        private long onReal(String name, int[] a) {
            return switch (name) {
                case "state" -> real.state(a[0]);
                case "person" -> real.person(a[0]);
                case "rule" -> real.rule(a[0], a[1], a[2]);
                case "set" -> real.set(a[0], a[1], a[2]) ? 1 : 0;
                case "change" -> real.change(a[0], a[1]) ? 1 : 0;
                case "feed" -> real.feed(a[0], a[1], a[2], a[3], a[4]);
                case "end" -> real.end(a[0]) ? 1 : 0;
                case "text" -> real.text();
                case "fault" -> real.fault(a[0]);
                case "play" -> real.play(a[0]);
                case "of" -> real.of(a[0], a[1]);
                case "told" -> real.told(a[0], a[1]);
                case "has" -> real.has(a[0]);
                case "book" -> real.book(a[0], a[1]);
                case "whose" -> real.whose(a[0]);
                case "get" -> real.get(a[0]);
                case "hardest" -> real.hardest(a[0]);
                case "words" -> real.words(a[0], a[1]);
                case "sit" -> real.sit(a[0]);
                case "plain" -> real.plain(a[0], a[1], a[2]);
                case "third" -> real.third(a[0], a[1], a[2], a[3]);
                case "fewest" -> real.fewest(a[0], a[1], a[2]);
                case "seating" -> real.seating(a[0], a[1]);
                case "behind" -> real.behind(a[0], a[1]);
                case "undo" -> real.undo() ? 1 : 0;
                case "image" -> real.image(a[0] == 1) ? 1 : 0;
                case "look" -> real.look(a[0]);
                default -> throw new IllegalStateException(name);
            };
        }

        private long onModel(String name, int[] a) {
            return switch (name) {
                case "state" -> model.state(a[0]);
                case "person" -> model.person(a[0]);
                case "rule" -> model.rule(a[0], a[1], a[2]);
                case "set" -> model.set(a[0], a[1], a[2]) ? 1 : 0;
                case "change" -> model.change(a[0], a[1]) ? 1 : 0;
                case "feed" -> model.feed(a);
                case "end" -> model.end(a[0]) ? 1 : 0;
                case "text" -> model.text();
                case "fault" -> a[0] == 0 ? model.fault : a[0] == 1 ? model.faultPlace : -1;
                case "play" -> model.play(a[0]);
                case "of" -> model.of(a[0], a[1]);
                case "told" -> model.told(a[0], a[1]);
                case "has" -> a[0] < 1 || a[0] > 9999 ? -1 : model.has(a[0]);
                case "book" -> model.book(a[0], a[1]);
                case "whose" -> model.whose(a[0]);
                case "get" -> model.get(a[0]);
                case "hardest" -> model.hardest(a[0]);
                case "words" -> model.words(a[0], a[1]);
                case "sit" -> model.sit(a[0]);
                case "plain" -> model.plain(a[0], a[1], a[2]);
                case "third" -> model.third(a[0], a[1], a[2], a[3]);
                case "fewest" -> model.fewest(a[0], a[1], a[2]);
                case "seating" -> model.seating(a[0], a[1]);
                case "behind" -> model.behind(a[0], a[1]);
                case "undo" -> model.undo() ? 1 : 0;
                case "image" -> model.image(a[0] == 1) ? 1 : 0;
                case "look" -> model.look(a[0]);
                default -> throw new IllegalStateException(name);
            };
        }
    }

    /** The document, as plainly as it can be written. */
    private static final class Model {
        List<int[]> people = new ArrayList<>(); // weak, glasses
        List<Integer> seats = new ArrayList<>(); // who sits on each
        List<int[]> rules = new ArrayList<>(); // sort, number, turn, on
        List<int[]> lines = new ArrayList<>();
        List<Line> law = new ArrayList<>();
        int state;
        int next = 1;
        int at;
        int way = 1;
        int turned;
        int pace;
        int record;
        int said;
        int last = -1;
        List<Integer> tape = new ArrayList<>();
        int fault;
        int faultPlace = -1;
        ArrayDeque<Model> before = new ArrayDeque<>();
        Model image;

        Model copied() {
            Model m = new Model();
            m.take(this);
            return m;
        }

        void take(Model m) {
            people = copy(m.people);
            seats = new ArrayList<>(m.seats);
            rules = copy(m.rules);
            lines = copy(m.lines);
            law = m.law;
            state = m.state;
            next = m.next;
            at = m.at;
            way = m.way;
            turned = m.turned;
            pace = m.pace;
            record = m.record;
            said = m.said;
            last = m.last;
        }

        static List<int[]> copy(List<int[]> rows) {
            List<int[]> copied = new ArrayList<>();
            rows.forEach(row -> copied.add(row.clone()));
            return copied;
        }

        int state(int v) {
            int was = state;
            state = v;
            before.clear();
            return was;
        }

        int person(int weak) {
            if (weak < 0 || weak > 99 || people.size() == 8) {
                return -1;
            }
            before.clear();
            seats.add(people.size());
            people.add(new int[] {weak, 0});
            return people.size() - 1;
        }

        boolean ruleCan(int sort, int number, int turn) {
            boolean good = sort == 0 && number >= 0 && number <= 9 || sort == 1 && number >= 2 && number <= 99;
            return good && turn >= 0 && turn <= 2;
        }

        int rule(int sort, int number, int turn) {
            if (!ruleCan(sort, number, turn) || rules.size() == 6) {
                return -1;
            }
            before.clear();
            rules.add(new int[] {sort, number, turn, 1});
            return rules.size() - 1;
        }

        boolean isPerson(int p) {
            return p >= 0 && p < people.size();
        }

        boolean set(int what, int who, int v) {
            boolean can = switch (what) {
                case 0 -> v >= 0 && v <= 99;
                case 1 -> who >= 0 && who < rules.size() && (v == 0 || v == 1);
                case 2 -> isPerson(who) && v >= 0 && v <= 99;
                case 3 -> isPerson(who) && v >= 0 && v <= 9999;
                case 4 -> v >= 1 && v <= 9999;
                case 5 -> isPerson(v);
                default -> false;
            };
            if (!can) {
                return false;
            }
            before.clear();
            switch (what) {
                case 0 -> pace = v;
                case 1 -> rules.get(who)[3] = v;
                case 2 -> people.get(who)[0] = v;
                case 3 -> people.get(who)[1] = v;
                case 4 -> next = v;
                default -> at = v;
            }
            return true;
        }

        boolean change(int a, int b) {
            if (a == b || !isPerson(a) || !isPerson(b)) {
                return false;
            }
            before.clear();
            int sa = seats.indexOf(a);
            int sb = seats.indexOf(b);
            seats.set(sa, b);
            seats.set(sb, a);
            return true;
        }

        int feed(int[] five) {
            if (tape.size() + 20 > 400) {
                return -1;
            }
            for (int v : five) {
                tape.add(v >>> 24);
                tape.add(v >>> 16 & 255);
                tape.add(v >>> 8 & 255);
                tape.add(v & 255);
            }
            return tape.size();
        }

        boolean end(int n) {
            if (n < 0 || n > tape.size()) {
                return false;
            }
            tape = new ArrayList<>(tape.subList(0, n));
            return true;
        }

        int text() {
            StringBuilder text = new StringBuilder();
            tape.forEach(b -> text.append((char) (int) b));
            tape = new ArrayList<>();
            Parser parser = new Parser(text.toString());
            try {
                law = parser.law();
                fault = 0;
                faultPlace = -1;
                return law.size();
            } catch (Fault f) {
                fault = f.kind;
                faultPlace = f.place;
                return -1;
            }
        }

        int has(int number) {
            int set = 0;
            for (int k = 0; k < rules.size(); k++) {
                int[] rule = rules.get(k);
                boolean hit = rule[0] == 0 ? ("" + number).contains("" + rule[1]) : number % rule[1] == 0;
                if (rule[3] == 1 && hit) {
                    set |= 1 << k;
                }
            }
            return set;
        }

        int odds(int number, int p) {
            int run = 0;
            if (law.stream().anyMatch(l -> l.asksRun)) {
                for (int k = number; k >= 1 && has(k) != 0; k--) {
                    run++;
                }
            }
            int[] facts = {number, Integer.bitCount(has(number)), turned, people.get(p)[0], people.get(p)[1], run, pace};
            for (Line line : law) {
                if (line.when == null || line.when.so(facts)) {
                    return Math.max(0, Math.min(1000, line.odds.value(facts)));
                }
            }
            return 0;
        }

        void say() {
            int skipped = 0;
            int turns = 0;
            for (int k = 0; k < rules.size(); k++) {
                if ((has(next) >> k & 1) == 1) {
                    if (rules.get(k)[2] == 1) {
                        way = -way;
                        turns++;
                    } else if (rules.get(k)[2] == 2) {
                        skipped++;
                    }
                }
            }
            turned = turns % 2;
            for (int k = 0; k < 1 + skipped; k++) {
                at += way;
                at = at < 0 ? seats.size() - 1 : at == seats.size() ? 0 : at;
            }
            next = next == 9999 ? 1 : next + 1;
        }

        int play(int n) {
            if (n < 1 || n > 200 || people.isEmpty()) {
                return -1;
            }
            int erred = 0;
            for (int k = 0; k < n; k++) {
                before.addLast(copied());
                if (before.size() > 10) {
                    before.removeFirst();
                }
                int p = seats.get(at);
                int odds = odds(next, p);
                boolean errs = false;
                if (odds > 0) {
                    state = state * 1664525 + 1013904223;
                    errs = (state >>> 8) % 1000 < odds;
                }
                if (errs) {
                    erred++;
                    people.get(p)[1] = Math.min(9999, people.get(p)[1] + 1);
                    if (lines.size() < 100) {
                        lines.add(new int[] {next, p, last, people.stream().mapToInt(x -> x[1]).sum()});
                    }
                    next = 1;
                    way = 1;
                    turned = 0;
                } else {
                    said++;
                    record = Math.max(record, next);
                    say();
                }
                last = p;
            }
            return erred;
        }

        int of(int p, int what) {
            if (!isPerson(p)) {
                return -1;
            }
            return switch (what) {
                case 0 -> people.get(p)[0];
                case 1 -> people.get(p)[1];
                case 2 -> seats.indexOf(p);
                case 3 -> odds(next, p);
                default -> -1;
            };
        }

        int told(int r, int what) {
            return r < 0 || r >= rules.size() || what < 0 || what > 3 ? -1 : rules.get(r)[what];
        }

        int book(int i, int what) {
            return i < 0 || i >= lines.size() || what < 0 || what > 3 ? -1 : lines.get(i)[what];
        }

        boolean far(int v) {
            return !people.isEmpty() && v >= next && v <= 9999;
        }

        int whose(int v) {
            if (!far(v)) {
                return -1;
            }
            Model m = copied();
            while (m.next != v) {
                m.say();
            }
            return m.seats.get(m.at);
        }

        /** Get, and the hardest. */
        int[] ahead(int v) {
            Model m = copied();
            long get = 1000000;
            int hardest = 0;
            int most = -1;
            for (int number = next; number <= v; number++) {
                int odds = m.odds(number, m.seats.get(m.at));
                get = get * (1000 - odds) / 1000;
                if (odds > most) {
                    most = odds;
                    hardest = number;
                }
                m.say();
            }
            return new int[] {(int) get, hardest};
        }

        int get(int v) {
            return far(v) ? ahead(v)[0] : -1;
        }

        int hardest(int v) {
            return far(v) ? ahead(v)[1] : -1;
        }

        Model fromStart() {
            Model m = copied();
            m.next = 1;
            m.at = 0;
            m.way = 1;
            m.turned = 0;
            return m;
        }

        int words(int seat, int v) {
            if (seat < 0 || seat >= seats.size() || v < 1 || v > 999) {
                return -1;
            }
            Model m = fromStart();
            int words = 0;
            for (int number = 1; number <= v; number++) {
                if (m.at == seat && has(number) != 0) {
                    words++;
                }
                m.say();
            }
            return words;
        }

        int sit(int v) {
            if (people.isEmpty() || v < 1 || v > 999) {
                return -1;
            }
            int best = 0;
            for (int k = 1; k < seats.size(); k++) {
                best = words(k, v) < words(best, v) ? k : best;
            }
            return best;
        }

        boolean span(int from, int to, int what) {
            return from >= 1 && to <= 9999 && from <= to && what >= 0 && what <= 2;
        }

        int plain(int from, int to, int what) {
            if (!span(from, to, what)) {
                return -1;
            }
            int plain = 0;
            int longest = 0;
            int begins = -1;
            int start = from;
            for (int n = from; n <= to; n++) {
                if (has(n) == 0) {
                    plain++;
                    start = n + 1;
                } else if (n + 1 - start > longest) {
                    longest = n + 1 - start;
                    begins = start;
                }
            }
            return what == 0 ? plain : what == 1 ? longest : begins;
        }

        int third(int sort, int number, int turn, int v) {
            if (!ruleCan(sort, number, turn) || !far(v)) {
                return -1;
            }
            Model m = copied();
            m.rules.add(new int[] {sort, number, turn, 1});
            return m.get(v);
        }

        int fewest(int from, int to, int what) {
            if (!span(from, to, what)) {
                return -1;
            }
            int[] best = {0, 0, Integer.MAX_VALUE};
            for (int k = 0; k < 29; k++) {
                int sort = k < 10 ? 0 : 1;
                int number = k < 10 ? k : k - 8;
                Model m = copied();
                m.rules.add(new int[] {sort, number, 0, 1});
                int plain = m.plain(from, to, 0);
                if (plain < best[2]) {
                    best = new int[] {sort, number, plain};
                }
            }
            return best[what];
        }

        int seating(int v, int what) {
            int n = people.size();
            if (n < 2 || n > 6 || v < 1 || v > 60 || what != 0 && (what < 10 || what >= 10 + n)) {
                return -1;
            }
            int[] best = new int[n + 1];
            best[n] = -1;
            tryOrders(new ArrayList<>(), v, best);
            return what == 0 ? best[n] : best[what - 10];
        }

        void tryOrders(List<Integer> order, int v, int[] best) {
            int n = people.size();
            if (order.size() == n) {
                Model m = fromStart();
                m.seats = order;
                int get = m.get(v);
                if (get > best[n]) {
                    for (int k = 0; k < n; k++) {
                        best[k] = order.get(k);
                    }
                    best[n] = get;
                }
                return;
            }
            for (int p = 0; p < n; p++) {
                if (!order.contains(p)) {
                    List<Integer> longer = new ArrayList<>(order);
                    longer.add(p);
                    tryOrders(longer, v, best);
                }
            }
        }

        int behind(int p, int ahead) {
            if (p == ahead || !isPerson(p) || !isPerson(ahead)) {
                return -1;
            }
            return (int) lines.stream().filter(l -> l[1] == p && l[2] == ahead).count();
        }

        boolean undo() {
            if (before.isEmpty()) {
                return false;
            }
            List<Line> stays = law;
            take(before.removeLast());
            law = stays;
            return true;
        }

        boolean image(boolean taken) {
            if (taken) {
                image = copied();
                return true;
            }
            if (image == null) {
                return false;
            }
            take(image);
            before.clear();
            return true;
        }

        int look(int what) {
            int[] all = {people.size(), rules.size(), next, at, way, turned, pace, record, said, lines.size(), state,
                law.size(), before.size()};
            return what < 0 || what >= all.length ? -2 : all[what];
        }
    }

    private interface Sum {
        int value(int[] facts);
    }

    private interface Condition {
        boolean so(int[] facts);
    }

    private static final class Line {
        Sum odds;
        Condition when;
        boolean asksRun;
    }

    private static final class Fault extends RuntimeException {
        private static final long serialVersionUID = 1;
        final int kind;
        final int place;

        Fault(int kind, int place) {
            this.kind = kind;
            this.place = place;
        }
    }

    /** The grammar, function by function. */
    private static final class Parser {
        private static final List<String> NAMES = List.of("number", "words", "turned", "weak", "glasses", "run", "pace");
        private static final List<String> OTHERS = List.of("err", "when", "or", "and", "not");

        private final List<String> tokens = new ArrayList<>();
        private final List<Integer> places = new ArrayList<>();
        private int k;
        private int open;

        Parser(String text) {
            int i = 0;
            while (i < text.length()) {
                char c = text.charAt(i);
                int j = i + 1;
                if (c == ' ' || c == '\n') {
                    i++;
                    continue;
                }
                if (letter(c)) {
                    while (j < text.length() && letter(text.charAt(j))) {
                        j++;
                    }
                } else if (c >= '0' && c <= '9') {
                    while (j < text.length() && text.charAt(j) >= '0' && text.charAt(j) <= '9') {
                        j++;
                    }
                }
                tokens.add(text.substring(i, j));
                places.add(i);
                i = j;
            }
            tokens.add("");
            places.add(text.length());
        }

        static boolean letter(char c) {
            return c >= 'a' && c <= 'z' || c >= 'A' && c <= 'Z';
        }

        String now() {
            return tokens.get(k);
        }

        Fault faultHere(int kind) {
            return new Fault(kind, places.get(k));
        }

        boolean skip(String token) {
            if (now().equals(token)) {
                k++;
                return true;
            }
            return false;
        }

        void need(String token) {
            if (!skip(token)) {
                throw faultHere(1);
            }
        }

        List<Line> law() {
            List<Line> lines = new ArrayList<>();
            while (!now().isEmpty()) {
                if (now().equals("err") && lines.size() == 16) {
                    throw faultHere(3);
                }
                need("err");
                int from = k;
                Line line = new Line();
                line.odds = sum();
                if (skip("when")) {
                    line.when = either();
                }
                line.asksRun = tokens.subList(from, k).contains("run");
                need(";");
                lines.add(line);
            }
            return lines;
        }

        Condition either() {
            Condition left = both();
            while (skip("or")) {
                Condition a = left;
                Condition b = both();
                left = f -> a.so(f) || b.so(f);
            }
            return left;
        }

        Condition both() {
            Condition left = one();
            while (skip("and")) {
                Condition a = left;
                Condition b = one();
                left = f -> a.so(f) && b.so(f);
            }
            return left;
        }

        Condition one() {
            if (now().equals("not") || now().equals("(")) {
                if (open == 8) {
                    throw faultHere(3);
                }
                open++;
                Condition inside;
                if (skip("not")) {
                    Condition other = one();
                    inside = f -> !other.so(f);
                } else {
                    k++;
                    inside = either();
                    need(")");
                }
                open--;
                return inside;
            }
            Sum a = sum();
            String by = now();
            if (!List.of("<", "=", ">").contains(by)) {
                throw faultHere(1);
            }
            k++;
            Sum b = sum();
            return switch (by) {
                case "<" -> f -> a.value(f) < b.value(f);
                case "=" -> f -> a.value(f) == b.value(f);
                default -> f -> a.value(f) > b.value(f);
            };
        }

        Sum sum() {
            Sum left = term();
            while (now().equals("+") || now().equals("-")) {
                boolean plus = now().equals("+");
                k++;
                Sum a = left;
                Sum b = term();
                left = f -> plus ? a.value(f) + b.value(f) : a.value(f) - b.value(f);
            }
            return left;
        }

        Sum term() {
            Sum left = unit();
            while (now().equals("*") || now().equals("/")) {
                boolean times = now().equals("*");
                k++;
                Sum a = left;
                if (times) {
                    Sum b = unit();
                    left = f -> a.value(f) * b.value(f);
                } else {
                    int by = number();
                    if (by == 0) {
                        k--;
                        throw faultHere(2);
                    }
                    left = f -> a.value(f) / by;
                }
            }
            return left;
        }

        int number() {
            if (!now().matches("[0-9]{1,4}")) {
                throw faultHere(1);
            }
            k++;
            return Integer.parseInt(tokens.get(k - 1));
        }

        Sum unit() {
            int name = NAMES.indexOf(now());
            if (name >= 0) {
                k++;
                return f -> f[name];
            }
            if (OTHERS.contains(now())) {
                throw faultHere(1);
            }
            int v = number();
            return f -> v;
        }
    }
}
