import java.lang.reflect.Constructor;
import java.lang.reflect.Field;
import java.lang.reflect.Method;
import java.lang.reflect.Modifier;
import java.util.Arrays;
import java.util.TreeSet;
import java.util.stream.Collectors;

/** The public face: every constant, the constructor, every method with its throws clause, and nothing else. */
public final class FaceTest {
    private static final String INDEX = "java.lang.IndexOutOfBoundsException";
    private static final String ARGUMENT = "java.lang.IllegalArgumentException";
    private static final String STATE = "java.lang.IllegalStateException";
    private static final String ELEMENT = "java.util.NoSuchElementException";

    private static final String[] METHODS = {
        "int pass(int) " + ARGUMENT + "," + STATE,
        "int now() ",
        "int hop(int) " + ARGUMENT + "," + STATE,
        "int clearPath() ",
        "boolean announce(int,int,int) " + INDEX + "," + ARGUMENT + "," + STATE,
        "int withdraw(int,int,int) " + INDEX + "," + ARGUMENT + "," + ELEMENT + "," + STATE,
        "int drop(int) " + INDEX + "," + STATE,
        "int updates() ",
        "int routes(int) " + INDEX,
        "int prefixes() ",
        "int pathAt(int,int,int,int) " + INDEX + "," + ARGUMENT + "," + ELEMENT,
        "int bestPeer(int,int) " + ARGUMENT,
        "int lookUp(int) " + INDEX,
        "int lookUpByScan(int) " + INDEX,
        "int origins(int,int) " + ARGUMENT,
        "int contested() ",
        "boolean isHijack(int,int,int) " + INDEX + "," + ARGUMENT + "," + ELEMENT,
        "boolean allow(int,int,int,int) " + ARGUMENT + "," + STATE,
        "int verdict(int,int,int) " + INDEX + "," + ARGUMENT + "," + ELEMENT,
        "int relate(int,int,int) " + ARGUMENT,
        "int valley(int,int,int) " + INDEX + "," + ARGUMENT + "," + ELEMENT,
        "int lookUpAt(int,int) " + INDEX,
        "int originAt(int,int) " + INDEX,
        "int changes(int,int) ",
    };

    private static final String[] CONSTANTS = {
        "NONE=-1", "NOT_FOUND=0", "VALID=1", "INVALID=2", "STRANGE=0", "PROVIDES=1", "ALIKE=2", "PROVIDED=3",
        "FREE=0", "VALLEY=1", "UNCERTAIN=2",
    };

    public static void main(String[] args) throws IllegalAccessException {
        Class<?> face = Bgpreplay.class;
        Check.same("modifiers", "public final", Modifier.toString(face.getModifiers()));
        Check.same("methods", sorted(METHODS), sorted(methods(face)));
        Check.same("constants", sorted(CONSTANTS), sorted(constants(face)));
        constructors(face);
        hiddenNames(face);
        Check.end();
    }

    private static String[] methods(Class<?> face) {
        return Arrays.stream(face.getDeclaredMethods())
            .filter(m -> !Modifier.isPrivate(m.getModifiers()))
            .map(FaceTest::told)
            .toArray(String[]::new);
    }

    private static String told(Method m) {
        Check.same("modifiers of " + m.getName(), "public", Modifier.toString(m.getModifiers()));
        return m.getReturnType() + " " + m.getName() + "(" + names(m.getParameterTypes()) + ") "
            + names(m.getExceptionTypes());
    }

    private static String names(Class<?>[] types) {
        return Arrays.stream(types).map(Class::getName).collect(Collectors.joining(","));
    }

    private static String[] constants(Class<?> face) throws IllegalAccessException {
        TreeSet<String> found = new TreeSet<>();
        for (Field f : face.getDeclaredFields()) {
            if (!Modifier.isPrivate(f.getModifiers())) {
                Check.same("modifiers of " + f.getName(), "public static final", Modifier.toString(f.getModifiers()));
                Check.same("type of " + f.getName(), "int", f.getType().getName());
                found.add(f.getName() + "=" + f.get(null));
            }
        }
        return found.toArray(new String[0]);
    }

    private static void constructors(Class<?> face) {
        Constructor<?>[] found = face.getDeclaredConstructors();
        Check.same("constructors", "1", String.valueOf(found.length));
        Check.same("constructor", "public Bgpreplay()", found[0].toString());
    }

    /** LANGUAGE.md, rules 1 and 11: no private method with a public one's name; few classes, few fields. */
    private static void hiddenNames(Class<?> face) {
        TreeSet<String> open = new TreeSet<>();
        for (Method m : face.getMethods()) {
            open.add(m.getName());
        }
        for (Method m : face.getDeclaredMethods()) {
            Check.that("private name " + m.getName(),
                !Modifier.isPrivate(m.getModifiers()) || !open.contains(m.getName()));
        }
        Check.that("some twelve classes", face.getDeclaredClasses().length <= 11);
        for (Class<?> inside : face.getDeclaredClasses()) {
            Check.that("static " + inside, Modifier.isStatic(inside.getModifiers()));
            Check.that("fields of " + inside, inside.getDeclaredFields().length <= 20);
        }
    }

    private static String sorted(String[] texts) {
        return String.join("; ", new TreeSet<>(Arrays.asList(texts)));
    }
}
