import java.lang.reflect.Constructor;
import java.lang.reflect.Field;
import java.lang.reflect.Method;
import java.lang.reflect.Modifier;
import java.util.Arrays;
import java.util.TreeSet;

/** The class has the document's face and shows nothing else. */
public final class FaceTest {
    private static final String[] FACE = {
        "int feed[int, int, int, int, int] throws IllegalStateException",
        "int end[int] throws IllegalArgumentException",
        "void origin[int, int, int, int, int] throws IllegalArgumentException",
        "int put[int, int] throws IllegalArgumentException IllegalStateException UnsupportedOperationException",
        "int take[int] throws IllegalArgumentException NoSuchElementException",
        "int takeAll[int] throws IllegalArgumentException",
        "int serial[int] throws",
        "int ask[int, boolean] throws IllegalArgumentException",
        "int records[int] throws NoSuchElementException",
        "int told[int, int, int] throws NoSuchElementException IllegalArgumentException",
        "int byteOf[int, int, int] throws NoSuchElementException IndexOutOfBoundsException",
        "int state[] throws IllegalArgumentException",
        "int count[int] throws"};

    public static void main(String[] args) {
        TreeSet<String> shown = new TreeSet<>();
        TreeSet<String> shownNames = new TreeSet<>();
        for (Method method : ZoneAnswers.class.getDeclaredMethods()) {
            if (!Modifier.isPrivate(method.getModifiers())) {
                shown.add(line(method));
                shownNames.add(method.getName());
                Check.due(method.getName() + " is public", Modifier.isPublic(method.getModifiers()), true);
            }
        }
        Check.due("methods", shown, new TreeSet<>(Arrays.asList(FACE)));
        for (Method method : ZoneAnswers.class.getDeclaredMethods()) {
            if (Modifier.isPrivate(method.getModifiers())) {
                Check.due("a private " + method.getName(), shownNames.contains(method.getName()), false);
            }
        }
        for (Field field : ZoneAnswers.class.getDeclaredFields()) {
            Check.due(field.getName() + " is private", Modifier.isPrivate(field.getModifiers()), true);
        }
        Constructor<?>[] constructors = ZoneAnswers.class.getDeclaredConstructors();
        Check.due("constructors", constructors.length + " " + constructors[0].getParameterCount(), "1 0");
        Check.due("public and final", Modifier.toString(ZoneAnswers.class.getModifiers()), "public final");
        Check.end();
    }

    /** The method as a line of the face. */
    private static String line(Method method) {
        StringBuilder line = new StringBuilder(method.getReturnType() + " " + method.getName());
        line.append(Arrays.toString(method.getParameterTypes())).append(" throws");
        for (Class<?> thrown : method.getExceptionTypes()) {
            line.append(' ').append(thrown.getSimpleName());
        }
        return line.toString();
    }
}
