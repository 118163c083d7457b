import java.lang.reflect.Constructor;
import java.lang.reflect.Field;
import java.lang.reflect.Method;
import java.lang.reflect.Modifier;
import java.util.Set;
import java.util.TreeSet;

/** The public face of the document. */
public final class FaceTest {
    private static final Check CHECK = new Check("FaceTest");
    private static final int HIDDEN_OR_NOT = Modifier.PUBLIC | Modifier.PROTECTED | Modifier.PRIVATE;

    public static void main(String[] args) {
        constants();
        members();
        methods();
        nested();
        CHECK.end();
    }

    private static void constants() {
        CHECK.due("NONE", FieldAfterField.NONE, -1);
        CHECK.due("UNKNOWN", FieldAfterField.UNKNOWN, -100001);
        CHECK.due("OUTSIDE", FieldAfterField.OUTSIDE, -100002);
        CHECK.due("NOT", FieldAfterField.NOT, -100003);
        CHECK.due("FULL", FieldAfterField.FULL, -100004);
    }

    private static void members() {
        Class<?> c = FieldAfterField.class;
        CHECK.holds("the class is public and final",
                Modifier.isPublic(c.getModifiers()) && Modifier.isFinal(c.getModifiers()));
        Constructor<?>[] all = c.getDeclaredConstructors();
        CHECK.holds("there is one constructor, public and without parameters",
                all.length == 1 && Modifier.isPublic(all[0].getModifiers()) && all[0].getParameterCount() == 0);
        Set<String> shown = new TreeSet<>();
        for (Field f : c.getDeclaredFields()) {
            if (!Modifier.isPrivate(f.getModifiers())) {
                shown.add(f.getName());
                CHECK.holds(f.getName() + " is public static final int", f.getType() == int.class
                        && f.getModifiers() == (Modifier.PUBLIC | Modifier.STATIC | Modifier.FINAL));
            }
        }
        CHECK.holds("the fields that show are the constants: " + shown,
                shown.equals(Set.of("NONE", "UNKNOWN", "OUTSIDE", "NOT", "FULL")));
    }

    private static void methods() {
        Set<String> longs = Set.of("det", "fit", "rest", "spread", "plan");
        Set<String> due = new TreeSet<>(Set.of(Calls.NAMES));
        for (Method m : FieldAfterField.class.getDeclaredMethods()) {
            String name = m.getName();
            if (Modifier.isPrivate(m.getModifiers())) {
                CHECK.holds("no private method bears the name " + name, !Set.of(Calls.NAMES).contains(name));
                continue;
            }
            CHECK.holds(name + " is due", due.remove(name));
            CHECK.holds(name + " is public", (m.getModifiers() & HIDDEN_OR_NOT) == Modifier.PUBLIC);
            CHECK.due("parameters of " + name, m.getParameterCount(), Calls.arity(name));
            CHECK.holds(name + " has the type that is due",
                    m.getReturnType() == (longs.contains(name) ? long.class : int.class));
            for (Class<?> p : m.getParameterTypes()) {
                CHECK.holds(name + " takes ints", p == int.class);
            }
        }
        CHECK.holds("no method is missing: " + due, due.isEmpty());
    }

    private static void nested() {
        Class<?>[] all = FieldAfterField.class.getDeclaredClasses();
        for (Class<?> c : all) {
            int m = c.getModifiers();
            CHECK.holds(c.getName() + " is static and does not show",
                    Modifier.isStatic(m) && !Modifier.isPublic(m) && !Modifier.isProtected(m));
            for (Method inside : c.getDeclaredMethods()) {
                CHECK.holds(c.getName() + "." + inside.getName() + " does not bear the name of a public method",
                        !Set.of(Calls.NAMES).contains(inside.getName()));
            }
        }
    }
}
