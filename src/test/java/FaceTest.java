import java.lang.reflect.Constructor;
import java.lang.reflect.Field;
import java.lang.reflect.Method;
import java.lang.reflect.Modifier;
import java.util.Arrays;
import java.util.TreeSet;

/** The public face: what the document lists, and nothing else that can be seen. */
public final class FaceTest {
    private static final String[] CONSTANTS = {
        "NONE=-1", "PINE=0", "CHERRY=1", "MAPLE=2", "OAK=3", "LONG=0", "CROSS=1", "FLOAT=2",
        "DRY=0", "WHOLE=1", "STUCK=2", "BROKEN=3", "STRANGE=0", "FLITCH=1", "BOOK=2", "BOARD=3",
    };
    private static final String B = "IndexOutOfBoundsException";
    private static final String A = "IllegalArgumentException";
    private static final String S = "IllegalStateException";
    private static final String[] METHODS = {
        "weather(int int) " + B + " " + A, "pass(int) " + A + " " + S,
        "board(int int int int int int) " + A + " " + S, "knot(int int int) " + B + " " + A + " " + S,
        "cut(int int int int boolean) " + B + " " + A + " " + S, "sharpen(int) " + B,
        "clearFrom(int int) " + B + " " + A, "coat(int) " + B + " " + S, "match(int int) " + B + " " + A,
        "joint(int int int int int) " + B + " " + A + " " + S, "need(int int) " + B + " " + A + " " + S,
        "clamps(int) " + A, "glue(int) " + A + " " + S, "repair(int) " + B + " " + S, "through(int) " + A,
        "breaksIn(int int) " + B + " " + A + " " + S, "month()", "ofBoard(int int) " + B + " " + A,
        "ofPart(int int) " + B + " " + A, "ofJoint(int int) " + B + " " + A,
    };

    private static String names(Class<?>[] types) {
        StringBuilder text = new StringBuilder();
        for (Class<?> type : types) {
            text.append(text.length() == 0 ? "" : " ").append(type.getSimpleName());
        }
        return text.toString();
    }

    public static void main(String[] args) throws IllegalAccessException {
        Class<?> face = DovetailRow.class;
        Check.due("the class", Modifier.toString(face.getModifiers()), "public final");
        Constructor<?>[] constructors = face.getDeclaredConstructors();
        Check.due("constructors", constructors.length, 1);
        Check.due("the constructor", names(constructors[0].getParameterTypes()), "");

        TreeSet<String> constants = new TreeSet<>();
        for (Field field : face.getDeclaredFields()) {
            if (Modifier.isPrivate(field.getModifiers())) {
                continue;
            }
            Check.due(field.getName(), Modifier.toString(field.getModifiers()), "public static final");
            constants.add(field.getName() + "=" + field.getInt(null));
        }
        Check.due("the constants", constants, new TreeSet<>(Arrays.asList(CONSTANTS)));

        TreeSet<String> methods = new TreeSet<>();
        TreeSet<String> publicNames = new TreeSet<>();
        for (Method method : face.getDeclaredMethods()) {
            if (!Modifier.isPrivate(method.getModifiers())) {
                String thrown = names(method.getExceptionTypes());
                Check.due(method.getName(), Modifier.toString(method.getModifiers()), "public");
                Check.due(method.getName() + "'s type", method.getReturnType(), int.class);
                methods.add((method.getName() + "(" + names(method.getParameterTypes()) + ") " + thrown).trim());
                publicNames.add(method.getName());
            }
        }
        Check.due("the methods", methods, new TreeSet<>(Arrays.asList(METHODS)));
        for (Method method : face.getDeclaredMethods()) {
            if (Modifier.isPrivate(method.getModifiers())) {
                Check.due("a private " + method.getName(), publicNames.contains(method.getName()), false);
            }
        }
        Check.end();
    }
}
