import java.io.IOException;
import java.nio.file.Files;
import java.nio.file.Path;

/** What the tests share that go through the document: each check belongs to a sentence, quoted from there. */
abstract class Sentences {
    static final int NONE = ReplayDesk.NONE;
    static final long THROWS = Desk.THROWS;
    static final int LEAST = Integer.MIN_VALUE;
    static final int MOST = Integer.MAX_VALUE;

    private static final Path DOCUMENT = Path.of("../shared/DOC.md");
    private static final String WORDS = readDocument();
    private static String sentence = "";
    private static int sentences = 0;
    private static int checks = 0;
    private static int wrong = 0;

    /** The checks that follow stand for these words, which should be the document's own. */
    static void sentence(String words) {
        sentence = words;
        sentences++;
        if (!WORDS.isEmpty() && !WORDS.contains(words)) {
            System.out.println("\"" + words + "\" is not in the document: look whether its tests still hold");
        }
    }

    static void due(String what, long want, long got) {
        due(what, text(want), text(got));
    }

    static void due(String what, boolean want, boolean got) {
        due(what, String.valueOf(want), String.valueOf(got));
    }

    static void due(String what, String want, String got) {
        checks++;
        if (!want.equals(got)) {
            fail(what + " answered " + got + ", due is " + want);
        }
    }

    static void finish() {
        System.out.println(sentences + " sentences, " + checks + " checks, " + wrong + " wrong");
        if (wrong != 0) {
            System.exit(1);
        }
    }

    private static void fail(String what) {
        wrong++;
        System.out.println("\"" + sentence + "\": " + what);
    }

    private static String text(long answer) {
        return answer == THROWS ? "an exception" : String.valueOf(answer);
    }

    private static String readDocument() {
        if (!Files.exists(DOCUMENT)) {
            System.out.println(DOCUMENT + " is not here: the quotes are not looked up");
            return "";
        }
        try {
            return Files.readString(DOCUMENT).replaceAll("\\s+", " ");
        } catch (IOException e) {
            throw new AssertionError(e);
        }
    }
}
