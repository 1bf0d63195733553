import java.lang.reflect.Constructor;
import java.lang.reflect.Field;
import java.lang.reflect.Method;
import java.lang.reflect.Modifier;
import java.util.Arrays;
import java.util.TreeSet;

/** The public face: just the constants, the constructor and the methods of the document. */
public final class FaceTest {
    private static final String[] METHODS = {
        "int type(long, int)", "int clear()", "int world()", "int set(int)", "int lot(int, int, int)",
        "int let(int)", "int doom(int)", "int sure(int, int, int)", "int instead(int, int)",
        "int doing(int, int, int)", "int due(int, int)", "int master(int, int)", "int limit(int, int)",
        "int machine(int, int)", "int give(int, int, int, int, int)",
        "int lend(int, int, int, int, int)", "int withdraw(int)", "int leave(int, int)",
        "int yes(int)", "int act(int, int, int, int)", "int undo(int)", "int wait(int)",
        "int line(int, int)", "int led(int, int)", "int about(int, int)", "int budget(int, int)",
        "int round(int)", "long odd(int, int, int)", "int wish(int, int)", "int wished(int)",
        "int quarrel()", "int beside(int)", "int keep(int)", "int back(int)", "int count(int)",
        "long trace()",
    };

    public static void main(String[] args) {
        constants();
        methods();
        classes();
        Check.finish();
    }

    private static void constants() {
        Check.due("BAD", ReinHall.BAD, -1);
        Check.due("STATE", ReinHall.STATE, -2);
        Check.due("FULL", ReinHall.FULL, -3);
        Check.due("NONE", ReinHall.NONE, -9);
        int shown = 0;
        for (Field f : ReinHall.class.getDeclaredFields()) {
            if (!Modifier.isPrivate(f.getModifiers())) {
                shown++;
                Check.holds(f + " is a constant", Modifier.isPublic(f.getModifiers())
                        && Modifier.isStatic(f.getModifiers()) && Modifier.isFinal(f.getModifiers())
                        && f.getType() == int.class);
            }
        }
        Check.due("fields that are shown", shown, 4);
    }

    private static void methods() {
        TreeSet<String> want = new TreeSet<>(Arrays.asList(METHODS));
        TreeSet<String> names = new TreeSet<>();
        TreeSet<String> got = new TreeSet<>();
        for (Method m : ReinHall.class.getDeclaredMethods()) {
            if (Modifier.isPublic(m.getModifiers())) {
                String types = Arrays.toString(m.getParameterTypes());
                got.add(m.getReturnType() + " " + m.getName() + "("
                        + types.substring(1, types.length() - 1) + ")");
                names.add(m.getName());
                Check.holds(m + " is of the object", !Modifier.isStatic(m.getModifiers()));
                Check.due("exceptions of " + m, m.getExceptionTypes().length, 0);
            }
        }
        Check.holds("the methods are " + want + ", and not " + got, got.equals(want));
        noneHidesBehind(ReinHall.class, names);
        for (Class<?> c : ReinHall.class.getDeclaredClasses()) {
            noneHidesBehind(c, names);
        }
    }

    /** Rule 1: no other member is shown, and no private method bears a public one's name. */
    private static void noneHidesBehind(Class<?> c, TreeSet<String> names) {
        for (Method m : c.getDeclaredMethods()) {
            if (m.isSynthetic() || Modifier.isPublic(m.getModifiers())) {
                continue;
            }
            Check.holds(m + " has a name of its own", !names.contains(m.getName()));
            if (c == ReinHall.class) {
                Check.holds(m + " is private", Modifier.isPrivate(m.getModifiers()));
            }
        }
    }

    private static void classes() {
        Check.holds("the class is public and final", Modifier.isPublic(ReinHall.class.getModifiers())
                && Modifier.isFinal(ReinHall.class.getModifiers()));
        Constructor<?>[] made = ReinHall.class.getDeclaredConstructors();
        Check.due("constructors", made.length, 1);
        Check.holds("the constructor is public and takes nothing",
                Modifier.isPublic(made[0].getModifiers()) && made[0].getParameterCount() == 0);
        Check.holds("at most twelve classes", ReinHall.class.getDeclaredClasses().length < 12);
        for (Class<?> c : ReinHall.class.getDeclaredClasses()) {
            Check.holds(c + " is static and not public", Modifier.isStatic(c.getModifiers())
                    && !Modifier.isPublic(c.getModifiers()) && !Modifier.isProtected(c.getModifiers()));
            int fields = 0;
            for (Field f : c.getDeclaredFields()) {
                fields += Modifier.isStatic(f.getModifiers()) ? 0 : 1;
                Check.holds(f + " is final if it is static", !Modifier.isStatic(f.getModifiers())
                        || Modifier.isFinal(f.getModifiers()));
            }
            Check.holds(c + " has at most twenty fields", fields <= 20);
        }
    }
}
