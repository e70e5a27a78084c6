import java.util.ArrayList;
import java.util.HashSet;
import java.util.List;
import java.util.NoSuchElementException;
import java.util.Random;
import java.util.Set;

/**
 * Random runs of calls, each answered by ReplayDesk and by a model that reads the document in another way: it
 * walks the program as a tree, and every decision runs the whole history from the beginning. The seeds are fixed.
 */
public final class ModelTest {
    private static final int RUNS = 6000;
    private static final int MOST_CALLS = 512;
    private static int wrong = 0;

    public static void main(String[] args) {
        int runs = args.length > 0 ? Integer.parseInt(args[0]) : RUNS;
        int[] refusals = new int[6];
        int faults = 0;
        for (int seed = 0; seed < runs && wrong < 20; seed++) {
            Pair pair = new Pair(seed);
            pair.play();
            faults += pair.faults;
            for (int i = 0; i < 6; i++) {
                refusals[i] += pair.refusals[i];
            }
        }
        System.out.println("decisions by refusal: " + java.util.Arrays.toString(refusals) + ", faults: " + faults);
        for (int i = 0; i < 6; i++) {
            if (refusals[i] < runs / 100) {
                wrong++;
                System.out.println("too few decisions end with " + i);
            }
        }
        System.out.println(wrong == 0 ? "desk and model agree" : "desk and model do not agree");
        if (wrong != 0) {
            System.exit(1);
        }
    }

    /** A desk and a model that get the same calls. */
    private static final class Pair {
        final int seed;
        final Random random;
        final Writer writer;
        final ReplayDesk desk = new ReplayDesk();
        final Model model = new Model();
        final List<String> log = new ArrayList<>();
        final List<String> texts = new ArrayList<>();
        final int[] refusals = new int[6];
        int faults = 0;
        int calls = 0;
        boolean failed = false;

        Pair(int seed) {
            this.seed = seed;
            this.random = new Random(seed);
            this.writer = new Writer(random);
        }

        void play() {
            int style = random.nextInt(10);
            if (style == 0) {
                for (int i = 0; i < 40; i++) {
                    newProgram(writer.soup());
                }
                return;
            }
            if (style == 1) {
                decide(0);
            }
            texts.add(writer.program());
            newProgram(texts.get(0));
            while (calls < MOST_CALLS && !failed) {
                act(random.nextInt(100));
                look();
            }
        }

        void act(int choice) {
            if (choice < 45) {
                decide(random.nextInt(50) == 0 ? random.nextInt() : random.nextInt(100));
            } else if (choice < 85) {
                happen();
            } else if (choice < 92) {
                same("crash()", () -> { desk.crash(); return 0; }, () -> 0);
            } else if (choice < 98) {
                newProgram(anotherText());
            } else if (random.nextInt(4) == 0 || model.refused == 4) {
                texts.add(writer.program());
                same("clear()", () -> { desk.clear(); return 0; }, () -> { model.clear(); return 0; });
            }
        }

        String anotherText() {
            String old = texts.get(random.nextInt(texts.size()));
            switch (random.nextInt(4)) {
                case 0:
                    return old;
                case 1:
                    return writer.broken(old);
                case 2:
                    old = writer.changed(old);
                    texts.add(old);
                    return old;
                default:
                    old = writer.patched(old);
                    texts.add(old);
                    return old;
            }
        }

        void newProgram(String text) {
            if (calls + text.length() / 8 + 4 > MOST_CALLS) {
                calls = MOST_CALLS;
                return;
            }
            for (int from = 0; from < text.length(); from += 8) {
                int to = Math.min(from + 8, text.length());
                long word = random.nextInt(4) == 0 ? random.nextLong() : 0;
                for (int i = from; i < to; i++) {
                    word = word << 8 | text.charAt(i);
                }
                long given = word;
                int n = to - from;
                same("type(" + given + ", " + n + ")", () -> desk.type(given, n) ? 1 : 0,
                        () -> model.type(given, n) ? 1 : 0);
            }
            log.add("TAPE " + text);
            same("program()", desk::program, model::program);
            same("fault()", desk::fault, () -> model.fault);
            if (model.fault != -1) {
                faults++;
            }
        }

        void decide(int time) {
            same("decide(" + time + ")", () -> desk.decide(time), () -> model.decide(time));
            same("refused()", desk::refused, () -> model.refused);
            same("differs()", desk::differs, () -> model.differs);
            refusals[model.refused]++;
        }

        void happen() {
            int kind = random.nextInt(20) == 0 ? random.nextInt(12) - 1 : 5 + random.nextInt(4);
            int ref = kind == 8 ? 0 : model.someOpen(random, kind == 7 ? 2 : 1);
            if (random.nextInt(20) == 0) {
                ref = random.nextInt(model.events.size() + 3) - 1;
            }
            int value = kind == 6 || kind == 7 ? 0 : random.nextInt(7) - 2;
            if (random.nextInt(20) == 0) {
                value = random.nextInt();
            }
            int r = ref;
            int v = value;
            same("happen(" + kind + ", " + ref + ", " + value + ")", () -> desk.happen(kind, r, v) ? 1 : 0,
                    () -> model.happen(kind, r, v) ? 1 : 0);
        }

        void look() {
            for (int i = 0; i < 2; i++) {
                int r = random.nextInt(20) == 0 ? random.nextInt(20) - 5 : random.nextInt(8);
                same("register(" + r + ")", () -> desk.register(r), () -> model.register(r));
                int what = random.nextInt(8) - 1;
                same("total(" + what + ")", () -> desk.total(what), () -> model.total(what));
            }
            int e = model.events.size() - random.nextInt(6);
            int part = random.nextInt(20) == 0 ? random.nextInt(8) - 3 : random.nextInt(3);
            same("event(" + e + ", " + part + ")", () -> desk.event(e, part), () -> model.event(e, part));
        }

        void same(String call, Answer ofDesk, Answer ofModel) {
            if (calls >= MOST_CALLS || failed) {
                return;
            }
            calls++;
            String got = answer(ofDesk);
            String due = answer(ofModel);
            log.add(call + " -> " + got);
            if (!got.equals(due)) {
                wrong++;
                failed = true;
                System.out.println("seed " + seed + ": " + call + " answered " + got + ", due is " + due);
                System.out.println(String.join("\n", log));
            }
        }

        static String answer(Answer answer) {
            try {
                return "" + answer.get();
            } catch (RuntimeException e) {
                return e.getClass().getSimpleName();
            }
        }
    }

    private interface Answer {
        int get();
    }

    /** Writes programs, good and bad ones. */
    private static final class Writer {
        private static final String[] PIECES = {"a", "b", "h", "i", "act", "timer", "any", "ended", "sig", "now", "patch", "stop", "wait",
            "1", "23", "123456", "1234567", ";", "=", "+", "-", "*", "<", "(", ")", "?", "[", "]", "|", ",", "@", " ", "#", "A"};
        final Random random;

        Writer(Random random) {
            this.random = random;
        }

        String cut(String text) {
            return text.length() > 400 ? text.substring(0, 400) : text;
        }

        String program() {
            for (int i = 0; i < 50; i++) {
                String text = statements(0, 2 + random.nextInt(8));
                if (text.length() <= 400) {
                    return text;
                }
            }
            return "@1[a=sig;b=act 1,a;]";
        }

        String statements(int depth, int most) {
            StringBuilder text = new StringBuilder();
            int count = depth == 0 ? most : random.nextInt(most + 1);
            for (int i = 0; i < count; i++) {
                text.append(statement(depth));
            }
            return text.toString();
        }

        String statement(int depth) {
            String r = register();
            int choice = random.nextInt(depth > 3 ? 20 : 26);
            if (choice < 4) {
                return r + "=" + x(0) + ";";
            } else if (choice < 8) {
                return r + "=act " + random.nextInt(3) + "," + x(0) + ";";
            } else if (choice < 10) {
                return r + "=timer " + x(0) + ";";
            } else if (choice < 13) {
                return r + "=wait " + register() + ";";
            } else if (choice < 14) {
                return r + "=any " + register() + "," + register() + ";";
            } else if (choice < 15) {
                return r + "=ended " + register() + ";";
            } else if (choice < 17) {
                return r + "=sig;";
            } else if (choice < 18) {
                return r + "=now;";
            } else if (choice < 19) {
                return r + "=patch " + random.nextInt(3) + ";";
            } else if (choice < 20) {
                return random.nextInt(4) == 0 ? "stop " + x(0) + ";" : " " + r + " = sig ; ";
            } else if (choice < 23) {
                return "?" + x(0) + "[" + statements(depth + 1, 3) + "|" + statements(depth + 1, 3) + "]";
            }
            return loop(depth);
        }

        String loop(int depth) {
            String body = statements(depth + 1, 4);
            switch (random.nextInt(4)) {
                case 0:
                    return "@" + x(0) + "[" + body + "]";
                case 1:
                    return "@1[" + body + "]";
                default:
                    String r = register();
                    return r + "=0;@" + r + "<" + random.nextInt(random.nextInt(20) == 0 ? 500 : 8) + "[" + body + r + "=" + r + "+1;]";
            }
        }

        String register() {
            return "" + (char) ('a' + random.nextInt(random.nextInt(4) == 0 ? 8 : 4));
        }

        String x(int depth) {
            int choice = random.nextInt(depth > 3 ? 8 : 13);
            if (choice < 4) {
                return register();
            } else if (choice < 8) {
                return "" + (random.nextInt(9) == 0 ? random.nextInt(1000000) : random.nextInt(5));
            } else if (choice < 9) {
                return "(" + x(depth + 1) + "<" + x(depth + 1) + ")";
            } else if (choice < 10) {
                return "-" + x(depth + 1);
            } else if (choice < 11) {
                return "(" + x(depth + 1) + ")";
            }
            return x(depth + 1) + "+-*".charAt(random.nextInt(3)) + x(depth + 1);
        }

        /** A number or a register becomes another one. */
        String changed(String text) {
            StringBuilder changed = new StringBuilder(text);
            for (int tries = 0; tries < 20 && text.length() > 0; tries++) {
                int i = random.nextInt(text.length());
                if (Character.isDigit(text.charAt(i))) {
                    changed.setCharAt(i, (char) ('0' + random.nextInt(4)));
                    return changed.toString();
                }
            }
            return text;
        }

        /** A statement more, where one may stand most often. */
        String patched(String text) {
            int i = text.indexOf(';', random.nextInt(text.length() + 1)) + 1;
            String more = random.nextInt(3) > 0 ? register() + "=patch " + random.nextInt(3) + ";" : statement(3);
            String longer = text.substring(0, i) + more + text.substring(i);
            return longer.length() > 400 ? text : longer;
        }

        String broken(String text) {
            int i = random.nextInt(text.length() + 1);
            int to = Math.min(text.length(), i + random.nextInt(3));
            return cut(text.substring(0, i) + PIECES[random.nextInt(PIECES.length)] + text.substring(to));
        }

        String soup() {
            String text = random.nextInt(3) == 0 ? deep() : program();
            text = text.length() > 60 ? text.substring(0, 60) : text;
            for (int i = random.nextInt(3); i >= 0; i--) {
                text = broken(text);
            }
            return text;
        }

        String deep() {
            StringBuilder text = new StringBuilder();
            int blocks = random.nextInt(9);
            for (int i = 0; i < blocks; i++) {
                text.append(random.nextBoolean() ? "@1[" : "?a[");
            }
            text.append("a=");
            for (int i = 7 + random.nextInt(6) - blocks; i > 0; i--) {
                text.append(random.nextBoolean() ? "-" : "(");
            }
            return text.append("1-1").toString();
        }
    }

    /** A node of the tree: a statement or an X. */
    private static final class Node {
        final String sort;
        int r;
        int s;
        int t;
        Node left;
        Node right;
        List<Node> first;
        List<Node> second;

        Node(String sort) {
            this.sort = sort;
        }
    }

    private static final class Fault extends RuntimeException {
        private static final long serialVersionUID = 1;
        final int place;

        Fault(int place) {
            this.place = place;
        }
    }

    private static final class Grammar {
        final String text;
        int at = 0;
        int open = 0;
        int count = 0;

        Grammar(String text) {
            this.text = text;
        }

        List<Node> whole() {
            List<Node> all = block();
            if (!token().isEmpty()) {
                throw new Fault(at);
            }
            return all;
        }

        /** The token at hand, with the blanks ahead of it passed; empty at the end. */
        String token() {
            while (at < text.length() && text.charAt(at) == ' ') {
                at++;
            }
            String rest = text.substring(at);
            String name = rest.replaceFirst("(?s)[^a-z].*", "");
            String number = rest.replaceFirst("(?s)[^0-9].*", "");
            String found = !name.isEmpty() ? name : !number.isEmpty() ? number : rest.isEmpty() ? "" : rest.substring(0, 1);
            boolean good = found.isEmpty() || found.matches("[a-h]|act|timer|any|ended|sig|now|patch|stop|wait|[0-9]{1,6}|[-;=+*<()?\\[\\]|,@]");
            if (!good) {
                throw new Fault(at);
            }
            return found;
        }

        String take(String pattern) {
            String found = token();
            if (!found.matches(pattern)) {
                throw new Fault(at);
            }
            at += found.length();
            return found;
        }

        boolean sees(String pattern) {
            return token().matches(pattern);
        }

        void enter(String sign) {
            token();
            if (open == 10) {
                throw new Fault(at);
            }
            take(sign);
            open++;
        }

        List<Node> block() {
            List<Node> all = new ArrayList<>();
            while (!sees("|[\\]|]")) {
                all.add(statement());
            }
            return all;
        }

        Node statement() {
            count++;
            if (sees("[?]")) {
                enter("[?]");
                Node n = new Node("?");
                n.left = x();
                take("\\[");
                n.first = block();
                take("[|]");
                n.second = block();
                take("\\]");
                open--;
                return n;
            }
            if (sees("@")) {
                enter("@");
                Node n = new Node("@");
                n.left = x();
                take("\\[");
                n.first = block();
                take("\\]");
                open--;
                return n;
            }
            Node n = take("[a-h]|stop").equals("stop") ? stop() : assignment(text.charAt(at - 1) - 'a');
            take(";");
            return n;
        }

        Node stop() {
            Node n = new Node("stop");
            n.left = x();
            return n;
        }

        Node assignment(int r) {
            take("=");
            Node n = new Node(sees("act|timer|wait|any|ended|sig|now|patch") ? take("[a-z]+") : "=");
            n.r = r;
            switch (n.sort) {
                case "act":
                    n.s = Integer.parseInt(take("[0-9]+"));
                    take(",");
                    n.left = x();
                    break;
                case "=":
                case "timer":
                    n.left = x();
                    break;
                case "any":
                    n.s = take("[a-h]").charAt(0) - 'a';
                    take(",");
                    n.t = take("[a-h]").charAt(0) - 'a';
                    break;
                case "wait":
                case "ended":
                    n.s = take("[a-h]").charAt(0) - 'a';
                    break;
                case "patch":
                    n.s = Integer.parseInt(take("[0-9]+"));
                    break;
                default:
                    break;
            }
            return n;
        }

        Node joined(Node left, String sign, Node right) {
            Node n = new Node(sign);
            n.left = left;
            n.right = right;
            return n;
        }

        Node x() {
            Node left = part();
            return sees("<") ? joined(left, take("<"), part()) : left;
        }

        Node part() {
            Node left = term();
            while (sees("[-+]")) {
                left = joined(left, take("[-+]"), term());
            }
            return left;
        }

        Node term() {
            Node left = factor();
            while (sees("[*]")) {
                left = joined(left, take("[*]"), factor());
            }
            return left;
        }

        Node factor() {
            if (sees("-")) {
                enter("-");
                Node n = new Node("negative");
                n.left = factor();
                open--;
                return n;
            }
            if (sees("[(]")) {
                enter("[(]");
                Node n = x();
                take("[)]");
                open--;
                return n;
            }
            String found = take("[a-h]|[0-9]+");
            Node n = new Node(Character.isDigit(found.charAt(0)) ? "number" : "register");
            n.s = n.sort.equals("number") ? Integer.parseInt(found) : found.charAt(0) - 'a';
            return n;
        }
    }

    /** How a run ends: refused for something, or good (0). */
    private static final class End extends RuntimeException {
        private static final long serialVersionUID = 1;
        final int refused;
        final int differs;

        End(int refused, int differs) {
            super(null, null, false, false);
            this.refused = refused;
            this.differs = differs;
        }
    }

    private static final class Model {
        String tape = "";
        List<Node> program = null;
        List<int[]> events = new ArrayList<>();
        int fault = -1;
        int refused = 0;
        int differs = -1;
        int[] told = new int[8];
        int toldStopped = 0;
        int toldSteps = 0;
        int toldTaken = 0;

        boolean type(long word, int n) {
            StringBuilder more = new StringBuilder();
            for (int i = n - 1; i >= 0; i--) {
                more.append((char) (word >> 8 * i & 255));
            }
            if (n < 1 || n > 8 || !more.toString().matches("[ -~]*") || tape.length() + n > 400) {
                return false;
            }
            tape += more;
            return true;
        }

        int program() {
            Grammar grammar = new Grammar(tape);
            tape = "";
            fault = -1;
            try {
                program = grammar.whole();
                return grammar.count;
            } catch (Fault f) {
                fault = f.place;
                throw new IllegalArgumentException();
            }
        }

        int decide(int time) {
            differs = -1;
            if (program == null) {
                refused = 1;
                throw new IllegalStateException();
            }
            Walk walk = new Walk(events, time);
            End end = walk.run(program);
            refused = end.refused;
            differs = end.differs;
            if (refused != 0) {
                throw new IllegalStateException();
            }
            int added = walk.all.size() - events.size() - 1;
            events = walk.all;
            told = walk.registers;
            toldStopped = walk.stopped ? 1 : 0;
            toldSteps = walk.steps;
            toldTaken = walk.taken.size();
            return added;
        }

        boolean isOver(int ref) {
            return events.stream().anyMatch(e -> e[0] >= 5 && e[0] <= 7 && e[1] == ref);
        }

        int someOpen(Random random, int kind) {
            List<Integer> open = new ArrayList<>();
            for (int i = 0; i < events.size(); i++) {
                if (events.get(i)[0] == kind && !isOver(i)) {
                    open.add(i);
                }
            }
            return open.isEmpty() ? 0 : open.get(random.nextInt(open.size()));
        }

        boolean happen(int kind, int ref, int value) {
            if (kind < 5 || kind > 8 || events.size() == 200 || kind == 8 && ref != 0 || (kind == 6 || kind == 7) && value != 0) {
                return false;
            }
            if (kind != 8) {
                int needed = kind == 7 ? 2 : 1;
                if (ref < 0 || ref >= events.size() || events.get(ref)[0] != needed || isOver(ref)) {
                    return false;
                }
            }
            events.add(new int[] {kind, ref, value});
            return true;
        }

        void clear() {
            events = new ArrayList<>();
            told = new int[8];
            toldStopped = 0;
            toldSteps = 0;
            toldTaken = 0;
        }

        int event(int i, int what) {
            if (i < 0 || i >= events.size() || what < 0 || what > 2) {
                throw new NoSuchElementException();
            }
            return events.get(i)[what];
        }

        int register(int r) {
            if (r < 0 || r > 7) {
                throw new NoSuchElementException();
            }
            return told[r];
        }

        int total(int what) {
            switch (what) {
                case 0:
                    return events.size();
                case 1:
                    return (int) events.stream().filter(e -> e[0] >= 1 && e[0] <= 4).count();
                case 2:
                    return (int) events.stream().filter(e -> e[0] == 0).count();
                case 3:
                    return toldStopped;
                case 4:
                    return toldSteps;
                case 5:
                    return toldTaken;
                default:
                    return -1;
            }
        }
    }

    /** One run from the beginning: where the program waits, the walk goes over to the next begin. */
    private static final class Walk {
        final List<int[]> all;
        final int old;
        final int time;
        final Set<Integer> taken = new HashSet<>();
        int[] registers = new int[8];
        boolean stopped = false;
        int steps = 0;
        int begin = -1;
        int place = 0;

        Walk(List<int[]> events, int time) {
            this.all = new ArrayList<>(events);
            this.old = events.size();
            this.time = time;
        }

        End run(List<Node> program) {
            try {
                nextDecision();
                walk(program);
                want(4, 0, 0);
                stopped = true;
                nextDecision();
                return new End(0, -1);
            } catch (End end) {
                return end;
            }
        }

        boolean isNew() {
            return begin == old;
        }

        boolean isCommand(int i) {
            return i < all.size() && all.get(i)[0] >= 1 && all.get(i)[0] <= 4;
        }

        void nextDecision() {
            if (begin >= 0 && isNew()) {
                throw new End(0, -1);
            }
            if (begin >= 0 && isCommand(place)) {
                throw new End(2, place);
            }
            int i = begin + 1;
            while (i < old && all.get(i)[0] != 0) {
                i++;
            }
            if (stopped) {
                throw new End(4, -1);
            }
            if (i == old) {
                roomFor(new int[] {0, 0, time});
            }
            begin = i;
            place = i + 1;
            steps = 0;
        }

        void roomFor(int[] event) {
            if (all.size() == 200) {
                throw new End(5, -1);
            }
            all.add(event);
        }

        void step() {
            if (steps == 1000) {
                throw new End(3, -1);
            }
            steps++;
        }

        int want(int kind, int ref, int value) {
            if (isNew()) {
                roomFor(new int[] {kind, ref, value});
            } else if (!isCommand(place) || !java.util.Arrays.equals(all.get(place), new int[] {kind, ref, value})) {
                throw new End(2, place);
            }
            return place++;
        }

        void walk(List<Node> block) {
            for (Node n : block) {
                if (n.sort.equals("@")) {
                    step();
                    while (x(n.left) != 0) {
                        walk(n.first);
                        step();
                    }
                } else if (n.sort.equals("?")) {
                    step();
                    walk(x(n.left) != 0 ? n.first : n.second);
                } else if (n.sort.equals("stop")) {
                    step();
                    want(4, 0, x(n.left));
                    stopped = true;
                    nextDecision();
                } else {
                    registers[n.r] = valueOf(n);
                }
            }
        }

        int valueOf(Node n) {
            step();
            switch (n.sort) {
                case "act":
                    return want(1, n.s, x(n.left));
                case "timer":
                    return want(2, 0, x(n.left));
                case "patch":
                    boolean isMark = isCommand(place) && all.get(place)[0] == 3 && all.get(place)[1] == n.s;
                    return isNew() || isMark ? want(3, n.s, 0) * 0 + 1 : 0;
                case "wait":
                    while (!isSo(n.s)) {
                        again();
                    }
                    return outcome(n.s);
                case "any":
                    while (!isSo(n.s) && !isSo(n.t)) {
                        again();
                    }
                    return isSo(n.s) ? 1 : 2;
                case "ended":
                    return isSo(n.s) ? 1 : 0;
                case "sig":
                    while (signal() < 0) {
                        again();
                    }
                    int i = signal();
                    taken.add(i);
                    return all.get(i)[2];
                case "now":
                    return all.get(begin)[2];
                default:
                    return x(n.left);
            }
        }

        void again() {
            nextDecision();
            step();
        }

        boolean tells(int told) {
            return told >= 0 && told < place && (all.get(told)[0] == 1 || all.get(told)[0] == 2);
        }

        boolean isSo(int register) {
            return !tells(registers[register]) || ender(registers[register]) != null;
        }

        int[] ender(int told) {
            for (int i = 0; i < begin; i++) {
                int[] e = all.get(i);
                if (e[0] >= 5 && e[0] <= 7 && e[1] == told) {
                    return e;
                }
            }
            return null;
        }

        int outcome(int register) {
            if (!tells(registers[register])) {
                return -2;
            }
            int[] e = ender(registers[register]);
            return e[0] == 5 ? e[2] : e[0] == 6 ? -1 : 0;
        }

        int signal() {
            for (int i = 0; i < begin; i++) {
                if (all.get(i)[0] == 8 && !taken.contains(i)) {
                    return i;
                }
            }
            return -1;
        }

        int x(Node n) {
            switch (n.sort) {
                case "number":
                    return n.s;
                case "register":
                    return registers[n.s];
                case "negative":
                    return -x(n.left);
                case "<":
                    return x(n.left) < x(n.right) ? 1 : 0;
                case "+":
                    return x(n.left) + x(n.right);
                case "-":
                    return x(n.left) - x(n.right);
                default:
                    return x(n.left) * x(n.right);
            }
        }
    }
}
