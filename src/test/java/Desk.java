import java.util.NoSuchElementException;

/**
 * A ReplayDesk for tests: an exception is an answer, texts are typed whole, and the calls are counted, as the
 * document promises nothing behind the 512th.
 */
final class Desk {
    static final long THROWS = Long.MIN_VALUE;
    static final int MOST_CALLS = 512;

    private final ReplayDesk real = new ReplayDesk();
    private int calls = 0;

    static Desk with(String text) {
        Desk desk = new Desk();
        desk.program(text);
        return desk;
    }

    static Desk decided(String text) {
        Desk desk = with(text);
        if (desk.decide(0) == THROWS) {
            throw new AssertionError("a refused decision: " + text);
        }
        return desk;
    }

    int calls() {
        return calls;
    }

    boolean type(long word, int n) {
        return used().type(word, n);
    }

    void write(String text) {
        for (int from = 0; from < text.length(); from += 8) {
            int to = Math.min(from + 8, text.length());
            long word = 0;
            for (int i = from; i < to; i++) {
                word = word << 8 | text.charAt(i);
            }
            if (!type(word, to - from)) {
                throw new AssertionError("could not be typed: " + text);
            }
        }
    }

    long program() {
        try {
            return used().program();
        } catch (RuntimeException e) {
            return thrown(e, IllegalArgumentException.class);
        }
    }

    /** How many statements; a text with a fault is the test's own mistake. */
    long program(String text) {
        write(text);
        long statements = program();
        if (statements == THROWS) {
            throw new AssertionError("a fault at " + fault() + ": " + text);
        }
        return statements;
    }

    int faultOf(String text) {
        write(text);
        boolean thrown = program() == THROWS;
        if (thrown != (fault() != ReplayDesk.NONE)) {
            throw new AssertionError("program() and fault() don't say the same: " + text);
        }
        return fault();
    }

    int fault() {
        return used().fault();
    }

    long decide(int time) {
        try {
            return used().decide(time);
        } catch (RuntimeException e) {
            return thrown(e, IllegalStateException.class);
        }
    }

    /** "good", or the answers of refused() and differs() behind a decide() that throws, each time that it is called. */
    String refusal() {
        if (decide(0) != THROWS) {
            return "good";
        }
        String first = refused() + " at " + differs();
        boolean isAgain = decide(0) == THROWS && first.equals(refused() + " at " + differs());
        return isAgain ? first : "at first " + first + ", then another";
    }

    int refused() {
        return used().refused();
    }

    int differs() {
        return used().differs();
    }

    boolean happen(int kind, int ref, int value) {
        return used().happen(kind, ref, value);
    }

    void signals(int howMany) {
        for (int i = 0; i < howMany; i++) {
            if (!happen(8, 0, i)) {
                throw new AssertionError("no room for signal " + i);
            }
        }
    }

    void crash() {
        used().crash();
    }

    void clear() {
        used().clear();
    }

    long event(int i, int what) {
        try {
            return used().event(i, what);
        } catch (RuntimeException e) {
            return thrown(e, NoSuchElementException.class);
        }
    }

    String event(int i) {
        return event(i, 0) + " " + event(i, 1) + " " + event(i, 2);
    }

    String events() {
        StringBuilder all = new StringBuilder();
        int size = total(0);
        for (int i = 0; i < size; i++) {
            all.append(i == 0 ? "" : ", ").append(event(i));
        }
        return all.toString();
    }

    long register(int r) {
        try {
            return used().register(r);
        } catch (RuntimeException e) {
            return thrown(e, NoSuchElementException.class);
        }
    }

    String registers() {
        StringBuilder all = new StringBuilder();
        for (int r = 0; r < 8; r++) {
            all.append(r == 0 ? "" : " ").append(register(r));
        }
        return all.toString();
    }

    int total(int what) {
        return used().total(what);
    }

    String totals() {
        StringBuilder all = new StringBuilder();
        for (int what = 0; what < 6; what++) {
            all.append(what == 0 ? "" : " ").append(total(what));
        }
        return all.toString();
    }

    /** What stands on the desk, but for the answers about the latest program() and decide(). */
    String seen() {
        return events() + "; " + registers() + "; " + totals();
    }

    private ReplayDesk used() {
        calls++;
        if (calls > MOST_CALLS) {
            throw new AssertionError("the test makes more calls than the document allows");
        }
        return real;
    }

    private static long thrown(RuntimeException e, Class<?> due) {
        if (e.getClass() != due) {
            throw new AssertionError("another exception than the document's", e);
        }
        return THROWS;
    }
}
