import java.lang.reflect.Constructor;
import java.lang.reflect.Field;
import java.lang.reflect.Method;
import java.lang.reflect.Modifier;
import java.util.TreeSet;

/** The face: the document's constructor and methods, and nothing else that is not private. */
final class FaceTest {
    private static final String DUE = "[int block(int,int) throws IllegalArgumentException,NoSuchElementException, "
            + "int count(int), "
            + "int finding(int,int) throws IllegalArgumentException,NoSuchElementException, "
            + "int leaks(int) throws IllegalArgumentException, "
            + "int memory(int,int) throws IllegalArgumentException, "
            + "int register(int,int) throws IllegalArgumentException, "
            + "int run(int) throws IllegalArgumentException,IllegalStateException,IndexOutOfBoundsException, "
            + "void code(int,int,int,int,int,int) throws IllegalArgumentException, "
            + "void poke(int,int) throws IllegalArgumentException, "
            + "void start(int) throws IllegalArgumentException]";

    public static void main(String[] args) {
        Class<ShadowWarden> face = ShadowWarden.class;
        Check.same("public and final", face.getModifiers(), Modifier.PUBLIC | Modifier.FINAL);
        TreeSet<String> methods = new TreeSet<>();
        for (Method method : face.getDeclaredMethods()) {
            if (!Modifier.isPrivate(method.getModifiers()) && !method.isSynthetic()) {
                Check.same(method.getName() + " is public", method.getModifiers(), Modifier.PUBLIC);
                methods.add(text(method));
            }
        }
        Check.same("methods", methods.toString(), DUE);
        for (Field field : face.getDeclaredFields()) {
            Check.same(field.getName() + " is private", Modifier.isPrivate(field.getModifiers()) ? 1 : 0, 1);
        }
        Constructor<?>[] constructors = face.getDeclaredConstructors();
        Check.same("constructors", constructors.length, 1);
        Check.same("without parameters", constructors[0].getParameterCount(), 0);
        Check.same("and public", constructors[0].getModifiers(), Modifier.PUBLIC);
        Check.finish();
    }

    private static String text(Method method) {
        StringBuilder text = new StringBuilder();
        text.append(method.getReturnType()).append(' ').append(method.getName()).append('(');
        text.append(names(method.getParameterTypes())).append(')');
        if (method.getExceptionTypes().length > 0) {
            text.append(" throws ").append(names(method.getExceptionTypes()));
        }
        return text.toString();
    }

    private static String names(Class<?>[] types) {
        StringBuilder text = new StringBuilder();
        for (Class<?> type : types) {
            text.append(text.length() == 0 ? "" : ",").append(type.getSimpleName());
        }
        return text.toString();
    }
}
