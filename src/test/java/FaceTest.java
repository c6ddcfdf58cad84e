import java.lang.reflect.Constructor;
import java.lang.reflect.Field;
import java.lang.reflect.Method;
import java.lang.reflect.Modifier;
import java.util.ArrayList;
import java.util.List;

/** The public face: the document's constructor and methods, and nothing else that is not private. */
final class FaceTest {
    private static final String[] METHODS = {
        "public void code(int i, int op, int d, int a, int b, int n) throws IllegalArgumentException;",
        "public void start(int i) throws IllegalArgumentException;",
        "public int run(int n) throws IllegalArgumentException, IllegalStateException, IndexOutOfBoundsException;",
        "public int register(int r, int what) throws IllegalArgumentException;",
        "public int memory(int i, int what) throws IllegalArgumentException;",
        "public void poke(int i, int v) throws IllegalArgumentException;",
        "public int finding(int k, int what) throws IllegalArgumentException, java.util.NoSuchElementException;",
        "public int block(int k, int what) throws IllegalArgumentException, java.util.NoSuchElementException;",
        "public int leaks(int kind) throws IllegalArgumentException;",
        "public int count(int what);",
    };

    public static void main(String[] args) {
        all().run();
    }

    /** The same words stand before each promise. */
    static Sentences all() {
        Sentences sentences = new Sentences().in("The public face")
                .holds("public final class ShadowWarden {", FaceTest::publicAndFinal)
                .holds("public ShadowWarden();", FaceTest::oneConstructor);
        for (String method : METHODS) {
            sentences.holds(method, () -> isThere(method));
        }
        String[] titles = {"code", "start", "run", "register", "memory", "poke", "finding", "block", "leaks", "count"};
        for (int i = 0; i < titles.length; i++) {
            String method = METHODS[i];
            String words = method.replace("public ", "`").replace(";", "`:");
            sentences.in("Promise " + (i + 2) + ": " + titles[i]).holds(words, () -> isThere(method));
        }
        return sentences;
    }

    private static List<Method> visibleMethods() {
        List<Method> visible = new ArrayList<>();
        for (Method method : ShadowWarden.class.getDeclaredMethods()) {
            if (!Modifier.isPrivate(method.getModifiers()) && !method.isSynthetic()) {
                visible.add(method);
            }
        }
        return visible;
    }

    private static void publicAndFinal() {
        Check.same("modifiers", ShadowWarden.class.getModifiers(), Modifier.PUBLIC | Modifier.FINAL);
        Check.same("no other method", visibleMethods().size(), METHODS.length);
        for (Field field : ShadowWarden.class.getDeclaredFields()) {
            Check.same(field.getName() + " is private", Modifier.isPrivate(field.getModifiers()) ? 1 : 0, 1);
        }
    }

    private static void oneConstructor() {
        Constructor<?>[] constructors = ShadowWarden.class.getDeclaredConstructors();
        Check.same("one", constructors.length, 1);
        Check.same("without parameters", constructors[0].getParameterCount(), 0);
        Check.same("public", constructors[0].getModifiers(), Modifier.PUBLIC);
    }

    private static void isThere(String due) {
        String wanted = withoutParameterNames(due);
        for (Method method : visibleMethods()) {
            if (text(method).equals(wanted)) {
                Check.same("public and no more", method.getModifiers(), Modifier.PUBLIC);
                return;
            }
        }
        Check.same("a method", "missing", wanted);
    }

    private static String withoutParameterNames(String declared) {
        return declared.replaceAll("(int) \\w+([,)])", "$1$2").replace("java.util.", "").replace(", ", ",");
    }

    private static String text(Method method) {
        StringBuilder text = new StringBuilder("public ");
        text.append(method.getReturnType()).append(' ').append(method.getName()).append('(');
        text.append(names(method.getParameterTypes())).append(')');
        if (method.getExceptionTypes().length > 0) {
            text.append(" throws ").append(names(method.getExceptionTypes()));
        }
        return text.append(';').toString();
    }

    private static String names(Class<?>[] types) {
        StringBuilder text = new StringBuilder();
        for (Class<?> type : types) {
            text.append(text.length() == 0 ? "" : ",").append(type.getSimpleName());
        }
        return text.toString();
    }
}
