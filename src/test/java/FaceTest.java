import java.lang.reflect.Constructor;
import java.lang.reflect.Field;
import java.lang.reflect.Method;
import java.lang.reflect.Modifier;
import java.util.Arrays;
import java.util.TreeSet;

/** The face has the members of the document with their throws, and no other one that can be seen. */
public final class FaceTest {
    private static final String INDEX = "IndexOutOfBoundsException";
    private static final String ARGUMENT = "IllegalArgumentException";
    private static final String STATE = "IllegalStateException";

    public static void main(String[] args) {
        Check.same("NONE", -1, CrossRounds.NONE);
        Check.yes("public", Modifier.isPublic(CrossRounds.class.getModifiers()));
        Check.yes("final", Modifier.isFinal(CrossRounds.class.getModifiers()));
        checkMethods();
        checkFields();
        checkConstructors();
        checkPrivateNames();
        Check.end();
    }

    private static void checkMethods() {
        TreeSet<String> due = new TreeSet<>();
        due.add("int net[int, int, int][" + ARGUMENT + ", " + STATE + "]");
        due.add("int couple[int, int, int][" + INDEX + ", " + ARGUMENT + ", " + STATE + "]");
        due.add("boolean exclude[int, int][" + INDEX + ", " + ARGUMENT + "]");
        due.add("int stage[int, int, int][" + INDEX + ", " + ARGUMENT + ", " + STATE + "]");
        due.add("int keep[int][" + ARGUMENT + "]");
        due.add("boolean row[int, int][" + ARGUMENT + ", " + STATE + "]");
        due.add("int run[int, boolean][" + ARGUMENT + "]");
        for (String name : new String[] {"early", "late", "added", "changed", "height", "noise", "count"}) {
            due.add("int " + name + "[int][" + INDEX + "]");
        }
        due.add("int source[int, int][" + INDEX + "]");
        due.add("void clear[][]");
        TreeSet<String> got = new TreeSet<>();
        for (Method method : CrossRounds.class.getDeclaredMethods()) {
            if (!Modifier.isPrivate(method.getModifiers()) && !method.isSynthetic()) {
                Check.yes(method + " is public", Modifier.isPublic(method.getModifiers()));
                Check.no(method + " is static", Modifier.isStatic(method.getModifiers()));
                got.add(method.getReturnType() + " " + method.getName()
                        + names(method.getParameterTypes()) + names(method.getExceptionTypes()));
            }
        }
        Check.yes("the methods " + got + " are " + due, got.equals(due));
    }

    private static String names(Class<?>[] types) {
        return Arrays.toString(Arrays.stream(types).map(Class::getSimpleName).toArray());
    }

    private static void checkFields() {
        int seen = 0;
        for (Field field : CrossRounds.class.getDeclaredFields()) {
            if (!Modifier.isPrivate(field.getModifiers()) && !field.isSynthetic()) {
                seen++;
            }
            if (Modifier.isStatic(field.getModifiers())) {
                Check.yes(field + " is final", Modifier.isFinal(field.getModifiers()));
            }
        }
        Check.same("fields that can be seen", 1, seen);
    }

    private static void checkConstructors() {
        Constructor<?>[] made = CrossRounds.class.getDeclaredConstructors();
        Check.same("constructors", 1, made.length);
        Check.same("parameters of the constructor", 0, made[0].getParameterCount());
        Check.yes("a public constructor", Modifier.isPublic(made[0].getModifiers()));
    }

    private static void checkPrivateNames() {
        TreeSet<String> open = new TreeSet<>();
        for (Method method : CrossRounds.class.getMethods()) {
            open.add(method.getName());
        }
        for (Method method : CrossRounds.class.getDeclaredMethods()) {
            if (Modifier.isPrivate(method.getModifiers())) {
                Check.no(method + " bears the name of a public one", open.contains(method.getName()));
            }
        }
    }
}
