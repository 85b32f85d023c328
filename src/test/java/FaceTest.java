import java.lang.reflect.Executable;
import java.lang.reflect.Field;
import java.lang.reflect.Method;
import java.lang.reflect.Modifier;
import java.util.Arrays;
import java.util.Set;
import java.util.TreeSet;

/** The public face is the document's, whole, and nothing else can be seen from outside. */
public final class FaceTest {
    private static final Set<String> NAMES =
            Set.of("hear", "listen", "rest", "reply", "set", "get", "count", "sum");

    public static void main(String[] args) {
        Check check = new Check();
        Class<WireSlave> c = WireSlave.class;
        check.due("public final", Modifier.isPublic(c.getModifiers()) && Modifier.isFinal(c.getModifiers()));
        check.due("no package", c.getPackageName().isEmpty());
        check.due("extends nothing", c.getSuperclass() == Object.class && c.getInterfaces().length == 0);
        constants(check, c);
        constructors(check, c);
        methods(check, c);
        classesInside(check, c);
        check.finish();
    }

    private static void constants(Check check, Class<?> c) {
        TreeSet<String> seen = new TreeSet<>();
        for (Field f : c.getDeclaredFields()) {
            if (!Modifier.isPrivate(f.getModifiers())) {
                seen.add(Modifier.toString(f.getModifiers()) + " " + f.getType() + " " + f.getName());
            }
        }
        dueFace(check, "constants", seen, "public static final int BAD", "public static final int WAITING");
        check.due("BAD", WireSlave.BAD, -1);
        check.due("WAITING", WireSlave.WAITING, -2);
    }

    private static void constructors(Check check, Class<?> c) {
        TreeSet<String> seen = new TreeSet<>();
        for (Executable e : c.getDeclaredConstructors()) {
            seen.add(told(e, ""));
        }
        dueFace(check, "constructors", seen, "public WireSlave [int]");
    }

    private static void methods(Check check, Class<?> c) {
        TreeSet<String> seen = new TreeSet<>();
        for (Method m : c.getDeclaredMethods()) {
            if (Modifier.isPrivate(m.getModifiers())) {
                check.due(m.getName() + ", private, is no name of the face", !NAMES.contains(m.getName()));
            } else {
                seen.add(told(m, m.getReturnType() + " "));
            }
        }
        dueFace(check, "methods", seen,
                "public int hear [int]", "public int listen [int, long]", "public int rest [int]",
                "public int reply [int]", "public int set [int, int, int]", "public int get [int, int]",
                "public int count [int]", "public int sum [int, long]");
    }

    private static void classesInside(Check check, Class<?> c) {
        for (Class<?> inside : c.getDeclaredClasses()) {
            int m = inside.getModifiers();
            check.due(inside.getName() + " is static", Modifier.isStatic(m));
            check.due(inside.getName() + " is not for others", !Modifier.isPublic(m) && !Modifier.isProtected(m));
        }
    }

    private static String told(Executable e, String answers) {
        return Modifier.toString(e.getModifiers()) + " " + answers + e.getName() + " "
                + Arrays.toString(e.getParameterTypes())
                + (e.getExceptionTypes().length == 0 ? "" : " throws");
    }

    private static void dueFace(Check check, String what, TreeSet<String> seen, String... want) {
        check.due(what + " " + seen, seen.equals(new TreeSet<>(Arrays.asList(want))));
    }
}
