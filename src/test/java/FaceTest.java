import java.lang.reflect.Constructor;
import java.lang.reflect.Field;
import java.lang.reflect.Method;
import java.lang.reflect.Modifier;
import java.util.Arrays;
import java.util.TreeSet;

/** The class has the document's face and shows nothing else. */
public final class FaceTest {
    private static final String[] FACE = {
        "int feed[int, int, int, int, int]", "int end[int]", "void origin[int, int, int, int, int]", "int put[int, int]",
        "int take[int]", "int takeAll[int]", "int serial[int]", "int ask[int, boolean]", "int records[int]",
        "int told[int, int, int]", "int byteOf[int, int, int]", "int state[]", "int count[int]"};

    public static void main(String[] args) {
        TreeSet<String> shown = new TreeSet<>();
        TreeSet<String> shownNames = new TreeSet<>();
        for (Method method : ZoneAnswers.class.getDeclaredMethods()) {
            if (!Modifier.isPrivate(method.getModifiers())) {
                shown.add(method.getReturnType() + " " + method.getName() + Arrays.toString(method.getParameterTypes()));
                shownNames.add(method.getName());
                Check.due(method.getName() + " is public", Modifier.isPublic(method.getModifiers()), true);
            }
        }
        Check.due("methods", shown, new TreeSet<>(Arrays.asList(FACE)));
        for (Method method : ZoneAnswers.class.getDeclaredMethods()) {
            if (Modifier.isPrivate(method.getModifiers())) {
                Check.due("a private " + method.getName(), shownNames.contains(method.getName()), false);
            }
        }
        for (Field field : ZoneAnswers.class.getDeclaredFields()) {
            Check.due(field.getName() + " is private", Modifier.isPrivate(field.getModifiers()), true);
        }
        Constructor<?>[] constructors = ZoneAnswers.class.getDeclaredConstructors();
        Check.due("constructors", constructors.length + " " + constructors[0].getParameterCount(), "1 0");
        Check.due("public and final", Modifier.toString(ZoneAnswers.class.getModifiers()), "public final");
        Check.end();
    }
}
