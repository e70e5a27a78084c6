import java.io.IOException;
import java.nio.file.Files;
import java.nio.file.Path;
import java.util.List;
import java.util.regex.Matcher;
import java.util.regex.Pattern;
import javax.tools.ToolProvider;

/** The examples of README.md, compiled as they stand there: a call with a remark answers the remark's first word. */
public final class ReadmeTest {
    private static final Pattern BLOCK = Pattern.compile("```java\n(.*?)```", Pattern.DOTALL);
    private static final Pattern CALL = Pattern.compile("((?:desk\\.|load\\().*\\));\\s+// (-?\\w+).*");
    private static final int LEAST_CALLS = 15;

    private static int calls = 0;
    private static int wrong = 0;

    /** A call of an example. */
    public interface Call {
        Object answer();
    }

    public static void main(String[] args) throws Exception {
        Path room = Files.createTempDirectory("readme");
        Path file = room.resolve("ReadmeExamples.java");
        try {
            Files.writeString(file, source(Files.readString(Path.of("README.md"))));
            play(room, file);
        } finally {
            wipe(room);
        }
        if (calls < LEAST_CALLS) {
            fail("only " + calls + " calls were found");
        }
        System.out.println(calls + " calls, " + wrong + " wrong");
        if (wrong != 0) {
            System.exit(1);
        }
    }

    /** For the examples: what a call answers is the word, or it throws. */
    public static void due(String text, String want, Call call) {
        calls++;
        String got;
        try {
            got = String.valueOf(call.answer());
        } catch (IllegalArgumentException | IllegalStateException e) {
            got = "throws";
        }
        if (!want.equals(got)) {
            fail(text + " answered " + got + ", README.md says " + want);
        }
    }

    private static String source(String readme) {
        StringBuilder helpers = new StringBuilder();
        StringBuilder body = new StringBuilder();
        Matcher blocks = BLOCK.matcher(readme);
        while (blocks.find()) {
            String block = blocks.group(1);
            (block.startsWith("static") ? helpers : body).append(block.startsWith("static") ? block : checked(block));
        }
        return "public final class ReadmeExamples {\n" + helpers + "public static void play() {\n" + body + "}\n}\n";
    }

    private static String checked(String block) {
        StringBuilder lines = new StringBuilder();
        for (String line : block.split("\n")) {
            Matcher call = CALL.matcher(line);
            boolean hasAnswer = call.matches() && !call.group(1).equals("desk.clear()");
            lines.append(hasAnswer ? check(call.group(1), call.group(2)) : line).append("\n");
        }
        return lines.toString();
    }

    private static String check(String call, String want) {
        String quoted = call.replace("\"", "\\\"");
        return "ReadmeTest.due(\"" + quoted + "\", \"" + want + "\", () -> " + call + ");";
    }

    private static void play(Path room, Path file) throws Exception {
        String path = System.getProperty("java.class.path");
        List<String> options = List.of("-cp", path, "-d", room.toString(), file.toString());
        int code = ToolProvider.getSystemJavaCompiler().run(null, null, null, options.toArray(new String[0]));
        if (code != 0) {
            fail("the examples can't be compiled");
            return;
        }
        new Examples().of(room.resolve("ReadmeExamples.class")).getMethod("play").invoke(null);
    }

    /** Loads the one class that the examples are. */
    private static final class Examples extends ClassLoader {
        Class<?> of(Path file) throws IOException {
            byte[] code = Files.readAllBytes(file);
            return defineClass("ReadmeExamples", code, 0, code.length);
        }
    }

    private static void wipe(Path room) throws IOException {
        Files.deleteIfExists(room.resolve("ReadmeExamples.java"));
        Files.deleteIfExists(room.resolve("ReadmeExamples.class"));
        Files.deleteIfExists(room);
    }

    private static void fail(String what) {
        wrong++;
        System.out.println(what);
    }
}
