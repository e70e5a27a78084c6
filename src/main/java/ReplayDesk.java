import java.util.NoSuchElementException;

/**
 * A desk for programs that wait for what others do: each decision adds what the program wants to the
 * history, and the history alone tells where the program stands.
 */
public final class ReplayDesk {
    public static final int NONE = -1;

    private static final int TAPE_ROOM = 400;
    private static final int EVENT_ROOM = 200;
    private static final int REGISTERS = 8;
    private static final int MOST_DIGITS = 6;
    private static final int MOST_STEPS = 1000;
    private static final int MOST_DEEP = 10;

    // The shortest text that makes two entries (the loop and the jump back) is "@1[]".
    private static final int ENTRY_ROOM = TAPE_ROOM / 2;
    // In each of the eleven X that can stand within one another a product, a sum and a < may be half done.
    private static final int STACK_ROOM = 3 * (MOST_DEEP + 1) + 1;
    // Between two steps there are at most as many jumps as there are blocks to leave.
    private static final int MOST_TURNS = (MOST_STEPS + 1) * (MOST_DEEP + 2);

    // The kinds of events.
    private static final int BEGIN = 0;
    private static final int ACT = 1;
    private static final int TIMER = 2;
    private static final int MARK = 3;
    private static final int STOP = 4;
    private static final int DONE = 5;
    private static final int FAILED = 6;
    private static final int FIRED = 7;
    private static final int SIGNAL = 8;

    // What a decision is refused for.
    private static final int GOOD = 0;
    private static final int NO_PROGRAM = 1;
    private static final int DIFFERS = 2;
    private static final int STUCK = 3;
    private static final int STOPPED = 4;
    private static final int NO_ROOM = 5;

    // Stands beside NONE where an event is asked for that ends an act or a timer.
    private static final int NO_ORDER = -2;

    // The kinds of tokens; a sign is its own kind, so these stay below every character.
    private static final int TAPE_END = 0;
    private static final int NOTHING = 1;
    private static final int REGISTER = 2;
    private static final int NUMBER = 3;
    private static final int WORD = 4;
    private static final String SIGNS = ";=+-*<()?[]|,@";

    // The sorts of a program's entries.
    private static final int DO_SET = 0;
    private static final int DO_ACT = 1;
    private static final int DO_TIMER = 2;
    private static final int DO_WAIT = 3;
    private static final int DO_ANY = 4;
    private static final int DO_ENDED = 5;
    private static final int DO_SIG = 6;
    private static final int DO_NOW = 7;
    private static final int DO_PATCH = 8;
    private static final int DO_STOP = 9;
    private static final int DO_CHOICE = 10;
    private static final int DO_LOOP = 11;
    private static final int JUMP = 12;
    private static final int PROGRAM_END = 13;

    // The sorts of an X's items.
    private static final int PUT_NUMBER = 0;
    private static final int PUT_REGISTER = 1;
    private static final int NEGATE = 2;
    private static final int LESS = 3;
    private static final int ADD = 4;
    private static final int SUBTRACT = 5;
    private static final int MULTIPLY = 6;

    private final Tape tape;
    private final Tokens tokens;
    private final Program draft;
    private final Program current;
    private final Reader reader;
    private final History history;
    private final Run run;
    private final Run told;
    private final Runner runner;
    private boolean hasProgram;
    private int faultPlace;
    private int refusal;
    private int differsPlace;

    public ReplayDesk() {
        tape = new Tape();
        tokens = new Tokens();
        draft = new Program();
        current = new Program();
        reader = new Reader(tokens, draft);
        history = new History();
        run = new Run();
        told = new Run();
        runner = new Runner(current, history, run);
        hasProgram = false;
        faultPlace = NONE;
        refusal = GOOD;
        differsPlace = NONE;
    }

    public boolean type(long word, int n) {
        return tape.put(word, n);
    }

    public int program() throws IllegalArgumentException {
        tokens.scan(tape);
        tape.wipe();
        faultPlace = reader.read();
        if (faultPlace != NONE) {
            throw new IllegalArgumentException("the tape has a fault");
        }
        current.copyFrom(draft);
        hasProgram = true;
        run.restart();
        return current.statementCount();
    }

    public int fault() {
        return faultPlace;
    }

    public int decide(int time) throws IllegalStateException {
        int start = history.size();
        refusal = hasProgram ? runner.catchUp() : NO_PROGRAM;
        differsPlace = refusal == DIFFERS ? runner.differsAt : NONE;
        if (refusal == GOOD) {
            refusal = runner.addDecision(time);
        }
        if (refusal != GOOD) {
            throw new IllegalStateException("the decision is refused");
        }
        told.copyFrom(run);
        return history.size() - start - 1;
    }

    public int refused() {
        return refusal;
    }

    public int differs() {
        return differsPlace;
    }

    public boolean happen(int kind, int ref, int value) {
        return history.addOfOthers(kind, ref, value);
    }

    public void crash() {
        run.restart();
    }

    public void clear() {
        history.wipe();
        run.restart();
        told.restart();
    }

    public int event(int i, int what) throws NoSuchElementException {
        if (!history.holds(i) || what < 0 || what > 2) {
            throw new NoSuchElementException("there is no such event");
        }
        if (what == 0) {
            return history.kindAt(i);
        }
        return what == 1 ? history.refAt(i) : history.valueAt(i);
    }

    public int register(int r) throws NoSuchElementException {
        if (r < 0 || r >= REGISTERS) {
            throw new NoSuchElementException("there is no such register");
        }
        return told.get(r);
    }

    public int total(int what) {
        switch (what) {
            case 0:
                return history.size();
            case 1:
                return history.count(ACT, STOP);
            case 2:
                return history.count(BEGIN, BEGIN);
            case 3:
                return told.stopped ? 1 : 0;
            case 4:
                return told.steps;
            case 5:
                return told.taken;
            default:
                return NONE;
        }
    }

    /** The characters that were typed and are not a program yet. */
    private static final class Tape {
        private final char[] signs = new char[TAPE_ROOM];
        private int length = 0;

        boolean put(long word, int n) {
            if (n < 1 || n > 8 || n > TAPE_ROOM - length) {
                return false;
            }
            for (int i = 0; i < n; i++) {
                int sign = byteOf(word, i);
                if (sign < 32 || sign > 126) {
                    return false;
                }
            }
            for (int i = n - 1; i >= 0 && length < TAPE_ROOM; i--) {
                signs[length] = (char) byteOf(word, i);
                length++;
            }
            return true;
        }

        void wipe() {
            length = 0;
        }

        int length() {
            return length;
        }

        int at(int place) {
            return place >= 0 && place < length ? signs[place] : NONE;
        }

        private static int byteOf(long word, int i) {
            return (int) (word >>> (8 * i)) & 255;
        }
    }

    /** The tape's tokens, with one behind them that stands for the tape's end. */
    private static final class Tokens {
        private final int[] kinds = new int[TAPE_ROOM + 1];
        private final int[] places = new int[TAPE_ROOM + 1];
        private final int[] values = new int[TAPE_ROOM + 1];
        private int size = 0;
        private int next = 0;

        void scan(Tape tape) {
            size = 0;
            next = 0;
            for (int place = 0; place < tape.length(); place++) {
                if (isStart(tape, place)) {
                    addFrom(tape, place);
                }
            }
            add(TAPE_END, tape.length(), 0);
        }

        int kind() {
            return next < size ? kinds[next] : TAPE_END;
        }

        int place() {
            return next < size ? places[next] : 0;
        }

        int value() {
            return next < size ? values[next] : 0;
        }

        void skip() {
            // The token for the tape's end is never passed, so that a fault always has a place.
            if (next < size - 1) {
                next++;
            }
        }

        boolean take(int kind) {
            boolean isThere = kind() == kind;
            if (isThere) {
                skip();
            }
            return isThere;
        }

        boolean isWord(int sort) {
            return kind() == WORD && value() == sort;
        }

        private void add(int kind, int place, int value) {
            if (size < kinds.length) {
                kinds[size] = kind;
                places[size] = place;
                values[size] = value;
                size++;
            }
        }

        private void addFrom(Tape tape, int place) {
            int sign = tape.at(place);
            if (isLetter(sign)) {
                addName(tape, place);
            } else if (isDigit(sign)) {
                addNumber(tape, place);
            } else {
                add(SIGNS.indexOf((char) sign) >= 0 ? sign : NOTHING, place, 0);
            }
        }

        private void addName(Tape tape, int place) {
            int end = place;
            while (end < tape.length() && isLetter(tape.at(end))) {
                end++;
            }
            int letter = tape.at(place) - 'a';
            if (end - place == 1 && letter < REGISTERS) {
                add(REGISTER, place, letter);
                return;
            }
            int sort = sortOfWord(tape, place, end);
            add(sort == NONE ? NOTHING : WORD, place, sort);
        }

        private void addNumber(Tape tape, int place) {
            int end = place;
            int number = 0;
            while (end < tape.length() && isDigit(tape.at(end))) {
                number = number * 10 + (tape.at(end) - '0');
                end++;
            }
            add(end - place <= MOST_DIGITS ? NUMBER : NOTHING, place, number);
        }

        private static boolean isStart(Tape tape, int place) {
            int sign = tape.at(place);
            int last = tape.at(place - 1);
            return sign != ' ' && !(isLetter(sign) && isLetter(last)) && !(isDigit(sign) && isDigit(last));
        }

        private static boolean isLetter(int sign) {
            return sign >= 'a' && sign <= 'z';
        }

        private static boolean isDigit(int sign) {
            return sign >= '0' && sign <= '9';
        }

        private static int sortOfWord(Tape tape, int from, int to) {
            if (spells(tape, from, to, "act")) {
                return DO_ACT;
            }
            if (spells(tape, from, to, "timer")) {
                return DO_TIMER;
            }
            if (spells(tape, from, to, "any")) {
                return DO_ANY;
            }
            if (spells(tape, from, to, "ended")) {
                return DO_ENDED;
            }
            if (spells(tape, from, to, "sig")) {
                return DO_SIG;
            }
            if (spells(tape, from, to, "now")) {
                return DO_NOW;
            }
            if (spells(tape, from, to, "patch")) {
                return DO_PATCH;
            }
            if (spells(tape, from, to, "stop")) {
                return DO_STOP;
            }
            return spells(tape, from, to, "wait") ? DO_WAIT : NONE;
        }

        private static boolean spells(Tape tape, int from, int to, String word) {
            if (to - from != word.length()) {
                return false;
            }
            for (int i = 0; i < word.length(); i++) {
                if (tape.at(from + i) != word.charAt(i)) {
                    return false;
                }
            }
            return true;
        }
    }

    /** Statements in a row of entries, with jumps where a block ends; each X is a row of items, operators last. */
    private static final class Program {
        private final int[] sorts = new int[ENTRY_ROOM];
        private final int[] targets = new int[ENTRY_ROOM];
        // The NUMBER, the first register that is looked at, or the entry where a jump goes.
        private final int[] firsts = new int[ENTRY_ROOM];
        private final int[] seconds = new int[ENTRY_ROOM];
        // An entry's items end where those of the next one begin.
        private final int[] itemsFrom = new int[ENTRY_ROOM];
        private final int[] itemSorts = new int[TAPE_ROOM];
        private final int[] itemValues = new int[TAPE_ROOM];
        private int size = 0;
        private int items = 0;
        private int jumps = 0;

        void wipe() {
            size = 0;
            items = 0;
            jumps = 0;
        }

        void copyFrom(Program other) {
            System.arraycopy(other.sorts, 0, sorts, 0, ENTRY_ROOM);
            System.arraycopy(other.targets, 0, targets, 0, ENTRY_ROOM);
            System.arraycopy(other.firsts, 0, firsts, 0, ENTRY_ROOM);
            System.arraycopy(other.seconds, 0, seconds, 0, ENTRY_ROOM);
            System.arraycopy(other.itemsFrom, 0, itemsFrom, 0, ENTRY_ROOM);
            System.arraycopy(other.itemSorts, 0, itemSorts, 0, TAPE_ROOM);
            System.arraycopy(other.itemValues, 0, itemValues, 0, TAPE_ROOM);
            size = other.size;
            items = other.items;
            jumps = other.jumps;
        }

        int size() {
            return size;
        }

        int statementCount() {
            return size - jumps;
        }

        int add(int sort, int target) {
            int entry = size;
            if (entry < ENTRY_ROOM) {
                sorts[entry] = sort;
                targets[entry] = target;
                firsts[entry] = 0;
                seconds[entry] = 0;
                itemsFrom[entry] = items;
                size++;
            }
            return entry;
        }

        int addJump(int to) {
            int entry = add(JUMP, 0);
            setFirst(entry, to);
            jumps++;
            return entry;
        }

        void addItem(int sort, int value) {
            if (items < TAPE_ROOM) {
                itemSorts[items] = sort;
                itemValues[items] = value;
                items++;
            }
        }

        void setSort(int entry, int sort) {
            if (holds(entry)) {
                sorts[entry] = sort;
            }
        }

        void setFirst(int entry, int value) {
            if (holds(entry)) {
                firsts[entry] = value;
            }
        }

        void setSecond(int entry, int value) {
            if (holds(entry)) {
                seconds[entry] = value;
            }
        }

        int sortAt(int entry) {
            return holds(entry) ? sorts[entry] : PROGRAM_END;
        }

        int targetAt(int entry) {
            return holds(entry) ? targets[entry] : 0;
        }

        int firstAt(int entry) {
            return holds(entry) ? firsts[entry] : 0;
        }

        int secondAt(int entry) {
            return holds(entry) ? seconds[entry] : 0;
        }

        int firstItem(int entry) {
            return holds(entry) ? itemsFrom[entry] : 0;
        }

        int itemEnd(int entry) {
            return holds(entry + 1) ? itemsFrom[entry + 1] : items;
        }

        int itemSort(int item) {
            return item >= 0 && item < items ? itemSorts[item] : PUT_NUMBER;
        }

        int itemValue(int item) {
            return item >= 0 && item < items ? itemValues[item] : 0;
        }

        private boolean holds(int entry) {
            return entry >= 0 && entry < size;
        }
    }

    /** Makes a program of the tokens; a method that answers false has stopped at the token that can't stand there. */
    private static final class Reader {
        private final Tokens tokens;
        private final Program made;

        Reader(Tokens tokens, Program made) {
            this.tokens = tokens;
            this.made = made;
        }

        /** Answers the place of the fault, or NONE. */
        int read() {
            made.wipe();
            boolean good = readStatements(0) && tokens.kind() == TAPE_END;
            return good ? NONE : tokens.place();
        }

        private boolean readStatements(int depth) {
            // No tape has room for more statements than characters.
            for (int i = 0; i < TAPE_ROOM && !isBlockEnd(tokens.kind()); i++) {
                if (!readStatement(depth)) {
                    return false;
                }
            }
            return true;
        }

        private static boolean isBlockEnd(int kind) {
            return kind == TAPE_END || kind == '|' || kind == ']';
        }

        private boolean readStatement(int depth) {
            if (tokens.kind() == '?') {
                return readChoice(depth);
            }
            if (tokens.kind() == '@') {
                return readLoop(depth);
            }
            if (tokens.kind() == REGISTER) {
                return readAssignment(depth) && tokens.take(';');
            }
            return tokens.isWord(DO_STOP) && readStop(depth) && tokens.take(';');
        }

        private boolean readChoice(int depth) {
            if (depth >= MOST_DEEP) {
                return false;
            }
            int choice = made.add(DO_CHOICE, 0);
            tokens.skip();
            if (!readX(depth + 1) || !tokens.take('[') || !readStatements(depth + 1) || !tokens.take('|')) {
                return false;
            }
            int jump = made.addJump(0);
            made.setFirst(choice, made.size());
            if (!readStatements(depth + 1) || !tokens.take(']')) {
                return false;
            }
            made.setFirst(jump, made.size());
            return true;
        }

        private boolean readLoop(int depth) {
            if (depth >= MOST_DEEP) {
                return false;
            }
            int loop = made.add(DO_LOOP, 0);
            tokens.skip();
            if (!readX(depth + 1) || !tokens.take('[') || !readStatements(depth + 1) || !tokens.take(']')) {
                return false;
            }
            made.addJump(loop);
            made.setFirst(loop, made.size());
            return true;
        }

        private boolean readStop(int depth) {
            made.add(DO_STOP, 0);
            tokens.skip();
            return readX(depth);
        }

        private boolean readAssignment(int depth) {
            int entry = made.add(DO_SET, tokens.value());
            tokens.skip();
            if (!tokens.take('=')) {
                return false;
            }
            if (tokens.kind() != WORD) {
                return readX(depth);
            }
            int sort = tokens.value();
            if (sort == DO_STOP) {
                return false;
            }
            made.setSort(entry, sort);
            tokens.skip();
            return readRest(sort, entry, depth);
        }

        private boolean readRest(int sort, int entry, int depth) {
            switch (sort) {
                case DO_ACT:
                    return readFirst(entry, NUMBER) && tokens.take(',') && readX(depth);
                case DO_TIMER:
                    return readX(depth);
                case DO_WAIT:
                case DO_ENDED:
                    return readFirst(entry, REGISTER);
                case DO_ANY:
                    return readFirst(entry, REGISTER) && tokens.take(',') && readSecond(entry);
                case DO_PATCH:
                    return readFirst(entry, NUMBER);
                default:
                    return true;
            }
        }

        private boolean readFirst(int entry, int kind) {
            made.setFirst(entry, tokens.value());
            return tokens.take(kind);
        }

        private boolean readSecond(int entry) {
            made.setSecond(entry, tokens.value());
            return tokens.take(REGISTER);
        }

        private boolean readX(int depth) {
            if (!readPart(depth)) {
                return false;
            }
            if (!tokens.take('<')) {
                return true;
            }
            if (!readPart(depth)) {
                return false;
            }
            made.addItem(LESS, 0);
            return true;
        }

        private boolean readPart(int depth) {
            if (!readTerm(depth)) {
                return false;
            }
            for (int i = 0; i < TAPE_ROOM && (tokens.kind() == '+' || tokens.kind() == '-'); i++) {
                int sort = tokens.kind() == '+' ? ADD : SUBTRACT;
                tokens.skip();
                if (!readTerm(depth)) {
                    return false;
                }
                made.addItem(sort, 0);
            }
            return true;
        }

        private boolean readTerm(int depth) {
            if (!readFactor(depth)) {
                return false;
            }
            for (int i = 0; i < TAPE_ROOM && tokens.kind() == '*'; i++) {
                tokens.skip();
                if (!readFactor(depth)) {
                    return false;
                }
                made.addItem(MULTIPLY, 0);
            }
            return true;
        }

        private boolean readFactor(int depth) {
            int kind = tokens.kind();
            if (kind == NUMBER || kind == REGISTER) {
                made.addItem(kind == NUMBER ? PUT_NUMBER : PUT_REGISTER, tokens.value());
                tokens.skip();
                return true;
            }
            if ((kind != '-' && kind != '(') || depth >= MOST_DEEP) {
                return false;
            }
            tokens.skip();
            if (kind == '(') {
                return readX(depth + 1) && tokens.take(')');
            }
            if (!readFactor(depth + 1)) {
                return false;
            }
            made.addItem(NEGATE, 0);
            return true;
        }
    }

    /** The events. */
    private static final class History {
        private final int[] kinds = new int[EVENT_ROOM];
        private final int[] refs = new int[EVENT_ROOM];
        private final int[] values = new int[EVENT_ROOM];
        // The event by which an act or a timer is over, or NONE.
        private final int[] overBy = new int[EVENT_ROOM];
        private final int[] signals = new int[EVENT_ROOM];
        private int size = 0;
        private int signalCount = 0;

        void wipe() {
            size = 0;
            signalCount = 0;
        }

        int size() {
            return size;
        }

        boolean holds(int i) {
            return i >= 0 && i < size;
        }

        int kindAt(int i) {
            return holds(i) ? kinds[i] : NONE;
        }

        int refAt(int i) {
            return holds(i) ? refs[i] : 0;
        }

        int valueAt(int i) {
            return holds(i) ? values[i] : 0;
        }

        int count(int fromKind, int toKind) {
            int found = 0;
            for (int i = 0; i < size; i++) {
                if (kindAt(i) >= fromKind && kindAt(i) <= toKind) {
                    found++;
                }
            }
            return found;
        }

        boolean add(int kind, int ref, int value) {
            if (size >= EVENT_ROOM) {
                return false;
            }
            kinds[size] = kind;
            refs[size] = ref;
            values[size] = value;
            overBy[size] = NONE;
            size++;
            return true;
        }

        boolean addOfOthers(int kind, int ref, int value) {
            int place = size;
            if (!fits(kind, ref, value) || !add(kind, ref, value)) {
                return false;
            }
            if (kind == SIGNAL) {
                addSignal(place);
            } else if (holds(ref)) {
                overBy[ref] = place;
            }
            return true;
        }

        /** For a decision that is taken back: nothing of the others stands behind its begin. */
        void dropDecision(int start) {
            if (start >= 0 && start < size) {
                size = start;
            }
        }

        int decisionEnd(int begin) {
            int end = begin + 1;
            while (end < size && kindAt(end) >= ACT && kindAt(end) <= STOP) {
                end++;
            }
            return end;
        }

        boolean isAt(int i, int kind, int ref, int value) {
            return holds(i) && kinds[i] == kind && refs[i] == ref && values[i] == value;
        }

        /** The event by which event i is over ahead of the place, or NONE. */
        int endOf(int i, int place) {
            return holds(i) && overBy[i] < place ? overBy[i] : NONE;
        }

        /** The event that is the signal of this number ahead of the place, or NONE. */
        int signal(int number, int place) {
            boolean isThere = number >= 0 && number < signalCount && signals[number] < place;
            return isThere ? signals[number] : NONE;
        }

        private void addSignal(int place) {
            if (signalCount < EVENT_ROOM) {
                signals[signalCount] = place;
                signalCount++;
            }
        }

        private boolean fits(int kind, int ref, int value) {
            switch (kind) {
                case DONE:
                    return isOpen(ref, ACT);
                case FAILED:
                    return isOpen(ref, ACT) && value == 0;
                case FIRED:
                    return isOpen(ref, TIMER) && value == 0;
                case SIGNAL:
                    return ref == 0;
                default:
                    return false;
            }
        }

        private boolean isOpen(int ref, int kind) {
            return holds(ref) && kinds[ref] == kind && overBy[ref] == NONE;
        }
    }

    /** Where a program stands. */
    private static final class Run {
        private final int[] registers = new int[REGISTERS];
        private int entry = 0;
        private int taken = 0;
        private int steps = 0;
        // The events ahead of this one were run.
        private int behind = 0;
        private boolean stopped = false;

        void restart() {
            for (int r = 0; r < REGISTERS; r++) {
                registers[r] = 0;
            }
            entry = 0;
            taken = 0;
            steps = 0;
            behind = 0;
            stopped = false;
        }

        void copyFrom(Run other) {
            System.arraycopy(other.registers, 0, registers, 0, REGISTERS);
            entry = other.entry;
            taken = other.taken;
            steps = other.steps;
            behind = other.behind;
            stopped = other.stopped;
        }

        int get(int r) {
            return r >= 0 && r < REGISTERS ? registers[r] : 0;
        }

        void set(int r, int value) {
            if (r >= 0 && r < REGISTERS) {
                registers[r] = value;
            }
        }
    }

    /** Runs the program over the history, a decision at a time. */
    private static final class Runner {
        private final Program program;
        private final History history;
        private final Run run;
        private final Run before = new Run();
        private final int[] stack = new int[STACK_ROOM];
        private int height = 0;
        private int begin = 0;
        // Where the decision's next command stands, and the first place that is no longer its own.
        private int place = 0;
        private int end = 0;
        private boolean isNew = false;
        private boolean waits = false;
        private int trouble = GOOD;
        private int differsAt = NONE;

        Runner(Program program, History history, Run run) {
            this.program = program;
            this.history = history;
            this.run = run;
        }

        /** Runs the decisions that were not run yet: GOOD, or why it can't be done. */
        int catchUp() {
            for (int i = run.behind; i < history.size(); i++) {
                if (history.kindAt(i) == BEGIN) {
                    runDecision(i, history.decisionEnd(i), false);
                    if (trouble != GOOD) {
                        run.restart();
                        return trouble;
                    }
                }
            }
            run.behind = history.size();
            return GOOD;
        }

        /** Adds a decision to the history behind all that were run: GOOD, or why it can't be done. */
        int addDecision(int time) {
            if (run.stopped) {
                return STOPPED;
            }
            int start = history.size();
            if (!history.add(BEGIN, 0, time)) {
                return NO_ROOM;
            }
            before.copyFrom(run);
            runDecision(start, EVENT_ROOM, true);
            if (trouble == GOOD) {
                run.behind = history.size();
            } else {
                run.copyFrom(before);
                history.dropDecision(start);
            }
            return trouble;
        }

        private void runDecision(int begin, int end, boolean isNew) {
            this.begin = begin;
            this.place = begin + 1;
            this.end = end;
            this.isNew = isNew;
            waits = false;
            trouble = GOOD;
            run.steps = 0;
            for (int i = 0; i < MOST_TURNS && trouble == GOOD && !waits && !run.stopped; i++) {
                turn(program.sortAt(run.entry), program.firstAt(run.entry));
            }
            if (trouble == GOOD && !isNew && place < end) {
                differ();
            }
        }

        private void turn(int sort, int first) {
            boolean isStep = sort != JUMP && sort != PROGRAM_END;
            if (isStep && run.steps >= MOST_STEPS) {
                trouble = STUCK;
                return;
            }
            run.steps += isStep ? 1 : 0;
            switch (sort) {
                case DO_SET:
                    finish(workOut());
                    break;
                case DO_ACT:
                    order(ACT, first, workOut());
                    break;
                case DO_TIMER:
                    order(TIMER, 0, workOut());
                    break;
                case DO_WAIT:
                    waitFor(run.get(first));
                    break;
                case DO_ANY:
                    waitForAny(run.get(first), run.get(program.secondAt(run.entry)));
                    break;
                case DO_ENDED:
                    finish(endOf(run.get(first)) == NONE ? 0 : 1);
                    break;
                case DO_SIG:
                    takeSignal();
                    break;
                case DO_NOW:
                    finish(history.valueAt(begin));
                    break;
                case DO_PATCH:
                    patch(first);
                    break;
                case DO_STOP:
                    stop(workOut());
                    break;
                case PROGRAM_END:
                    stop(0);
                    break;
                case JUMP:
                    run.entry = first;
                    break;
                default:
                    // Left are the choice and the loop, which both go elsewhere for 0.
                    run.entry = workOut() != 0 ? run.entry + 1 : first;
                    break;
            }
        }

        private void finish(int value) {
            run.set(program.targetAt(run.entry), value);
            run.entry++;
        }

        private void order(int kind, int ref, int value) {
            int number = place;
            if (want(kind, ref, value)) {
                finish(number);
            }
        }

        private void stop(int value) {
            if (want(STOP, 0, value)) {
                run.stopped = true;
            }
        }

        private void patch(int number) {
            boolean isMarked = place < end && history.isAt(place, MARK, number, 0);
            if (!isNew && !isMarked) {
                finish(0);
            } else if (want(MARK, number, 0)) {
                finish(1);
            }
        }

        private boolean want(int kind, int ref, int value) {
            if (isNew) {
                if (!history.add(kind, ref, value)) {
                    trouble = NO_ROOM;
                    return false;
                }
            } else if (place >= end || !history.isAt(place, kind, ref, value)) {
                differ();
                return false;
            }
            place++;
            return true;
        }

        private void differ() {
            trouble = DIFFERS;
            differsAt = place;
        }

        private void waitFor(int told) {
            int by = endOf(told);
            if (by == NONE) {
                waits = true;
            } else if (by == NO_ORDER) {
                finish(-2);
            } else {
                // A fired timer's value is 0 in the history already.
                finish(history.kindAt(by) == FAILED ? -1 : history.valueAt(by));
            }
        }

        private void waitForAny(int first, int second) {
            if (endOf(first) != NONE) {
                finish(1);
            } else if (endOf(second) != NONE) {
                finish(2);
            } else {
                waits = true;
            }
        }

        private void takeSignal() {
            int signal = history.signal(run.taken, begin);
            if (signal == NONE) {
                waits = true;
            } else {
                run.taken++;
                finish(history.valueAt(signal));
            }
        }

        /** The event by which the act or timer that is told is over, NONE if it is not, NO_ORDER if none is told. */
        private int endOf(int told) {
            int kind = history.kindAt(told);
            // In an old decision the history goes on behind the next command, but the program can't know that yet.
            if (told >= place || (kind != ACT && kind != TIMER)) {
                return NO_ORDER;
            }
            return history.endOf(told, begin);
        }

        private int workOut() {
            int to = program.itemEnd(run.entry);
            height = 0;
            for (int i = program.firstItem(run.entry); i < to; i++) {
                work(program.itemSort(i), program.itemValue(i));
            }
            return pop();
        }

        private void work(int sort, int value) {
            if (sort == PUT_NUMBER) {
                push(value);
            } else if (sort == PUT_REGISTER) {
                push(run.get(value));
            } else if (sort == NEGATE) {
                push(-pop());
            } else {
                int right = pop();
                int left = pop();
                push(join(sort, left, right));
            }
        }

        private static int join(int sort, int left, int right) {
            switch (sort) {
                case LESS:
                    return left < right ? 1 : 0;
                case ADD:
                    return left + right;
                case SUBTRACT:
                    return left - right;
                default:
                    return left * right;
            }
        }

        private void push(int value) {
            if (height >= 0 && height < STACK_ROOM) {
                stack[height] = value;
                height++;
            }
        }

        private int pop() {
            if (height < 1 || height > STACK_ROOM) {
                return 0;
            }
            height--;
            return stack[height];
        }
    }
}
