import java.lang.reflect.Member;
import java.lang.reflect.Modifier;
import java.util.Arrays;
import java.util.TreeSet;

/** The public face is the document's, whole, and nothing else can be seen from outside. */
public final class FaceTest {
    public static void main(String[] args) {
        Check check = new Check();
        Class<WireSlave> c = WireSlave.class;
        check.due("public final", Modifier.isPublic(c.getModifiers()) && Modifier.isFinal(c.getModifiers()));
        dueNames(check, "constants", c.getDeclaredFields(), "BAD", "WAITING");
        dueNames(check, "methods", c.getDeclaredMethods(),
                "hear", "listen", "rest", "reply", "set", "get", "count", "sum");
        check.due("constructors", c.getDeclaredConstructors().length, 1);
        check.due("BAD", WireSlave.BAD, -1);
        check.due("WAITING", WireSlave.WAITING, -2);
        check.finish();
    }

    private static void dueNames(Check check, String what, Member[] members, String... want) {
        TreeSet<String> seen = new TreeSet<>();
        for (Member m : members) {
            if (Modifier.isPrivate(m.getModifiers())) {
                check.due(m.getName() + " is no name of the face", !Arrays.asList(want).contains(m.getName()));
            } else {
                check.due(m.getName() + " is public", Modifier.isPublic(m.getModifiers()));
                seen.add(m.getName());
            }
        }
        check.due(what + " " + seen, seen.equals(new TreeSet<>(Arrays.asList(want))));
    }
}
