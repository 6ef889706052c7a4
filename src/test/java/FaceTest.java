import java.lang.reflect.Constructor;
import java.lang.reflect.Field;
import java.lang.reflect.Method;
import java.lang.reflect.Modifier;
import java.util.Arrays;
import java.util.Set;
import java.util.TreeSet;

/**
 * The public face: what the document's code block gives, and no other member that is not private; and what
 * LANGUAGE.md (rules 1, 5 and 11) says of the members of all classes.
 */
final class FaceTest {
    private static final String INDEX = " IndexOutOfBoundsException";
    private static final String ARGUMENT = " IllegalArgumentException";
    private static final String STATE = " IllegalStateException";
    private static final String[] FACE = {
        "int setGround(int, int, int, int)" + INDEX + ARGUMENT,
        "boolean ditch(int, int)" + INDEX,
        "int setNight(int, int, int, int)" + INDEX + ARGUMENT,
        "int drive(int, int)" + INDEX + STATE,
        "int again(int)" + INDEX + STATE,
        "int pitch(int, int, int)" + INDEX + ARGUMENT + STATE,
        "int raise(int)" + INDEX + STATE,
        "int tie(int, int)" + INDEX + STATE,
        "int ground(int, int, int)" + INDEX,
        "int peg(int, int)" + INDEX,
        "int tent(int, int)" + INDEX,
        "int count(int)" + INDEX,
        "int holds(int, int, int)" + INDEX + ARGUMENT,
        "int storm(int, int, int)" + ARGUMENT + INDEX,
        "int bears(int)" + ARGUMENT,
        "int flood(int, int, int)" + ARGUMENT + INDEX,
        "int advise(int, int)" + INDEX + ARGUMENT,
        "int pass(int)" + ARGUMENT,
        "int foresee(int, int)" + ARGUMENT + INDEX,
        "double mean()",
        "long digest()",
    };

    private static final Set<Class<?>> OF_CONSTANTS = Set.of(int.class, long.class, boolean.class, char.class,
            String.class, int[].class, long[].class, char[].class, byte[].class);

    public static void main(String[] args) {
        Check check = new Check("FaceTest");
        face(check);
        privateNames(check);
        classesInside(check);
        check.end();
    }

    private static void face(Check check) {
        check.due("the class's modifiers", TentCamp.class.getModifiers(), Modifier.PUBLIC | Modifier.FINAL);
        Set<String> open = new TreeSet<>();
        for (Method method : TentCamp.class.getDeclaredMethods()) {
            if (!Modifier.isPrivate(method.getModifiers()) && !method.isSynthetic()) {
                check.due("modifiers of " + method.getName(), method.getModifiers(), Modifier.PUBLIC);
                open.add(lineOf(method));
            }
        }
        check.due("the methods", open.toString(), new TreeSet<>(Arrays.asList(FACE)).toString());
        Constructor<?>[] constructors = TentCamp.class.getDeclaredConstructors();
        check.due("constructors", constructors.length, 1);
        check.due("the constructor", constructors[0].toString(), "public TentCamp()");
        for (Field field : TentCamp.class.getDeclaredFields()) {
            check.due(field.getName() + " is private", Modifier.isPrivate(field.getModifiers()), true);
        }
    }

    private static void privateNames(Check check) {
        Set<String> open = new TreeSet<>();
        for (Method method : TentCamp.class.getMethods()) {
            open.add(method.getName());
        }
        for (Method method : TentCamp.class.getDeclaredMethods()) {
            if (Modifier.isPrivate(method.getModifiers())) {
                check.due(method.getName() + " is a public name too", open.contains(method.getName()), false);
            }
        }
    }

    private static void classesInside(Check check) {
        Class<?>[] inside = TentCamp.class.getDeclaredClasses();
        check.due("there are at most 12 classes", inside.length < 12, true);
        fields(check, TentCamp.class);
        for (Class<?> one : inside) {
            int open = one.getModifiers() & (Modifier.PUBLIC | Modifier.PROTECTED);
            check.due(one.getSimpleName() + " is open", open, 0);
            check.due(one.getSimpleName() + " is static", Modifier.isStatic(one.getModifiers()), true);
            fields(check, one);
        }
    }

    private static void fields(Check check, Class<?> one) {
        int ofObjects = 0;
        for (Field field : one.getDeclaredFields()) {
            String name = one.getSimpleName() + "." + field.getName();
            if (Modifier.isStatic(field.getModifiers())) {
                check.due(name + " is final", Modifier.isFinal(field.getModifiers()), true);
                check.due(name + " is of a constant's type", OF_CONSTANTS.contains(field.getType()), true);
            } else {
                ofObjects++;
            }
        }
        check.due(one.getSimpleName() + " has at most 20 fields", ofObjects <= 20, true);
    }

    private static String lineOf(Method method) {
        StringBuilder line = new StringBuilder();
        line.append(method.getReturnType()).append(' ').append(method.getName()).append('(');
        String comma = "";
        for (Class<?> parameter : method.getParameterTypes()) {
            line.append(comma).append(parameter);
            comma = ", ";
        }
        line.append(')');
        for (Class<?> thrown : method.getExceptionTypes()) {
            line.append(' ').append(thrown.getSimpleName());
        }
        return line.toString();
    }
}
