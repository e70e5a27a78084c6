import java.lang.reflect.Constructor;
import java.lang.reflect.Field;
import java.lang.reflect.Method;
import java.lang.reflect.Modifier;
import java.util.Arrays;
import java.util.Set;
import java.util.TreeSet;

/** The section "The public face": the class shows these members and no others, and NONE is -1. */
public final class FaceTest {
    private static int wrong = 0;

    public static void main(String[] args) {
        check("members", new TreeSet<>(Set.of(
                "public static final int NONE",
                "public ReplayDesk()",
                "public boolean type(long, int)",
                "public int program() throws IllegalArgumentException",
                "public int fault()",
                "public int decide(int) throws IllegalStateException",
                "public int refused()",
                "public int differs()",
                "public boolean happen(int, int, int)",
                "public void crash()",
                "public void clear()",
                "public int event(int, int) throws NoSuchElementException",
                "public int register(int) throws NoSuchElementException",
                "public int total(int)")), visibleMembers());
        check("the class's modifiers", "public final", Modifier.toString(ReplayDesk.class.getModifiers()));
        check("NONE", -1, ReplayDesk.NONE);
        checkNoStaticStateChanges(ReplayDesk.class);
        for (Class<?> inner : ReplayDesk.class.getDeclaredClasses()) {
            check(inner.getName() + " is hidden and static", true,
                    Modifier.isPrivate(inner.getModifiers()) && Modifier.isStatic(inner.getModifiers()));
            checkNoStaticStateChanges(inner);
        }
        System.out.println(wrong == 0 ? "the face is as due" : wrong + " parts of the face are not as due");
        if (wrong != 0) {
            System.exit(1);
        }
    }

    private static Set<String> visibleMembers() {
        Set<String> found = new TreeSet<>();
        for (Field f : ReplayDesk.class.getDeclaredFields()) {
            add(found, f.getModifiers(), plain(f.getType()) + " " + f.getName());
        }
        for (Constructor<?> c : ReplayDesk.class.getDeclaredConstructors()) {
            add(found, c.getModifiers(), "ReplayDesk" + list(c.getParameterTypes()) + thrown(c.getExceptionTypes()));
        }
        for (Method m : ReplayDesk.class.getDeclaredMethods()) {
            add(found, m.getModifiers(), plain(m.getReturnType()) + " " + m.getName()
                    + list(m.getParameterTypes()) + thrown(m.getExceptionTypes()));
        }
        return found;
    }

    private static void add(Set<String> found, int modifiers, String text) {
        if (!Modifier.isPrivate(modifiers)) {
            String words = Modifier.toString(modifiers);
            found.add(words.isEmpty() ? text : words + " " + text);
        }
    }

    private static String plain(Class<?> type) {
        return type.getSimpleName();
    }

    private static String list(Class<?>[] types) {
        return "(" + String.join(", ", Arrays.stream(types).map(FaceTest::plain).toList()) + ")";
    }

    private static String thrown(Class<?>[] types) {
        return types.length == 0 ? "" : " throws " + String.join(", ", Arrays.stream(types).map(FaceTest::plain).toList());
    }

    private static void checkNoStaticStateChanges(Class<?> type) {
        for (Field f : type.getDeclaredFields()) {
            if (Modifier.isStatic(f.getModifiers())) {
                check(type.getName() + "." + f.getName() + " is final", true, Modifier.isFinal(f.getModifiers()));
            }
        }
    }

    private static void check(String what, Object due, Object got) {
        if (!due.equals(got)) {
            wrong++;
            System.out.println(what + ": " + got + ", due is " + due);
        }
    }
}
