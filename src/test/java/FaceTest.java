import java.lang.reflect.Constructor;
import java.lang.reflect.Field;
import java.lang.reflect.Method;
import java.lang.reflect.Modifier;
import java.util.Set;
import java.util.TreeSet;

/** The public face is the document's, and no more. */
public final class FaceTest {
    private static final String[] FACE = {
        "int arrival(int, int, int) IllegalArgumentException IllegalStateException UnsupportedOperationException",
        "int change(int, int, int) NoSuchElementException IllegalArgumentException IllegalStateException",
        "int aside(int, int) NoSuchElementException IllegalArgumentException",
        "int life(int, int) IllegalArgumentException",
        "int standIn(int, int, boolean) IllegalArgumentException IllegalStateException",
        "int kit(int, int, int) IllegalArgumentException IllegalStateException UnsupportedOperationException",
        "int order(int, int, int, int) IllegalArgumentException UnsupportedOperationException",
        "int close(int) NoSuchElementException IllegalStateException",
        "int promise(int, int) IllegalArgumentException",
        "int share(int, int) IllegalArgumentException ArithmeticException",
        "int bars(int, int, int) IllegalArgumentException IllegalStateException",
        "int flow(int, int, int) NoSuchElementException IllegalArgumentException IllegalStateException",
        "int state(int) NoSuchElementException",
        "int left(int) NoSuchElementException",
        "int count(int)",
    };

    public static void main(String[] args) {
        Due due = new Due("FaceTest");
        Class<?> face = PromiseFlows.class;
        Set<String> want = new TreeSet<>(Set.of(FACE));
        Set<String> got = new TreeSet<>();
        Set<String> names = new TreeSet<>();
        for (Method method : face.getDeclaredMethods()) {
            if (Modifier.isPublic(method.getModifiers())) {
                got.add(text(method));
                names.add(method.getName());
            }
        }
        due.same("the methods", want.toString(), got.toString());
        for (Method method : face.getDeclaredMethods()) {
            if (!Modifier.isPublic(method.getModifiers())) {
                due.same(method.getName() + " is private", "true", "" + Modifier.isPrivate(method.getModifiers()));
                due.same(method.getName() + " has a public one's name", "false", "" + names.contains(method.getName()));
            }
        }
        for (Field field : face.getDeclaredFields()) {
            due.same(field.getName() + " is private", "true", "" + Modifier.isPrivate(field.getModifiers()));
        }
        due.same("public final", "true",
                "" + (Modifier.isPublic(face.getModifiers()) && Modifier.isFinal(face.getModifiers())));
        Constructor<?>[] constructors = face.getDeclaredConstructors();
        due.answers("one constructor", 1, () -> constructors.length);
        due.answers("without arguments", 0, () -> constructors[0].getParameterCount());
        due.same("public", "true", "" + Modifier.isPublic(constructors[0].getModifiers()));
        due.end();
    }

    private static String text(Method method) {
        StringBuilder text = new StringBuilder();
        text.append(method.getReturnType().getSimpleName()).append(' ').append(method.getName()).append('(');
        String between = "";
        for (Class<?> type : method.getParameterTypes()) {
            text.append(between).append(type.getSimpleName());
            between = ", ";
        }
        text.append(')');
        for (Class<?> type : method.getExceptionTypes()) {
            text.append(' ').append(type.getSimpleName());
        }
        return text.toString();
    }
}
