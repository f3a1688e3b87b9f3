import java.lang.reflect.Constructor;
import java.lang.reflect.Field;
import java.lang.reflect.Method;
import java.lang.reflect.Modifier;
import java.util.Arrays;
import java.util.Set;
import java.util.TreeSet;
import java.util.stream.Collectors;

/** The public face is the document's, with nothing beside it. */
public final class FaceTest {
    private static final Set<String> METHODS = new TreeSet<>(Set.of(
            "int factory(int) IndexOutOfBoundsException IllegalArgumentException IllegalStateException",
            "int format() IllegalStateException",
            "int write(int,int,int) IndexOutOfBoundsException",
            "int read(int,int) IndexOutOfBoundsException UnsupportedOperationException"
                    + " IllegalStateException NoSuchElementException",
            "int reassign(int) IndexOutOfBoundsException",
            "int spoil(int,boolean) IndexOutOfBoundsException IllegalArgumentException",
            "int cutAfter(int) IllegalArgumentException",
            "int start()",
            "int physical(int) IndexOutOfBoundsException",
            "int logical(int) IndexOutOfBoundsException",
            "int spares(int) IndexOutOfBoundsException",
            "int grown(int,boolean) IndexOutOfBoundsException",
            "int primary(int) IndexOutOfBoundsException",
            "int seeks(int,int) IndexOutOfBoundsException",
            "int state(int) IndexOutOfBoundsException",
            "int told(int)"));

    private static final Set<String> CONSTANTS = new TreeSet<>(Set.of(
            "OFF=-5", "NONE=-1", "DONE=0", "DAMAGED=1", "HEALTHY=2", "FULL=3",
            "GOOD=0", "WEAK=1", "BAD=2"));

    public static void main(String[] args) throws IllegalAccessException {
        Checks checks = new Checks();
        int modifiers = DefectDrive.class.getModifiers();
        checks.holds("public final class", Modifier.isPublic(modifiers) && Modifier.isFinal(modifiers));

        Set<String> methods = new TreeSet<>();
        Set<String> publicNames = new TreeSet<>();
        for (Method m : DefectDrive.class.getDeclaredMethods()) {
            if (!Modifier.isPrivate(m.getModifiers()) && !m.isSynthetic()) {
                checks.holds(m + " is public and of the object",
                        Modifier.isPublic(m.getModifiers()) && !Modifier.isStatic(m.getModifiers()));
                methods.add(written(m));
                publicNames.add(m.getName());
            }
        }
        checks.holds("methods " + methods, methods.equals(METHODS));
        for (Method m : DefectDrive.class.getDeclaredMethods()) {
            checks.holds("own name of " + m,
                    Modifier.isPublic(m.getModifiers()) || !publicNames.contains(m.getName()));
        }

        Set<String> constants = new TreeSet<>();
        for (Field f : DefectDrive.class.getDeclaredFields()) {
            if (!Modifier.isPrivate(f.getModifiers())) {
                checks.holds(f + " is a public constant int", f.getType() == int.class
                        && f.getModifiers() == (Modifier.PUBLIC | Modifier.STATIC | Modifier.FINAL));
                constants.add(f.getName() + "=" + f.getInt(null));
            }
        }
        checks.holds("constants " + constants, constants.equals(CONSTANTS));

        Constructor<?>[] constructors = DefectDrive.class.getDeclaredConstructors();
        checks.same("constructors", constructors.length, 1);
        checks.holds("public constructor without parameters", constructors[0].getParameterCount() == 0
                && Modifier.isPublic(constructors[0].getModifiers()));
        checks.end();
    }

    private static String written(Method m) {
        String parameters = Arrays.stream(m.getParameterTypes())
                .map(Class::getSimpleName).collect(Collectors.joining(","));
        StringBuilder text = new StringBuilder();
        text.append(m.getReturnType().getSimpleName()).append(' ').append(m.getName());
        text.append('(').append(parameters).append(')');
        for (Class<?> e : m.getExceptionTypes()) {
            text.append(' ').append(e.getSimpleName());
        }
        return text.toString();
    }
}
