import java.lang.reflect.InvocationTargetException;
import java.lang.reflect.Method;
import java.util.ArrayList;
import java.util.Arrays;
import java.util.HashMap;
import java.util.List;
import java.util.Map;

/**
 * One object that is told calls by their names; it counts them, since no more than 512 are promised.
 * A script has a call a line: "act 0 0 0 1"; "3* yes 0" thrice; "typed TEXT" and "told TEXT" (with
 * world() behind it) type a text, eight bytes a call.
 */
final class Hall {
    static final int PROMISED = 512;
    private static final Map<String, Method> METHODS = methods();

    /** A call by its name, with its numbers. */
    static final class Call {
        final String name;
        final long[] args;

        Call(String name, long... args) {
            this.name = name;
            this.args = args;
        }

        Call with(int place, long v) {
            long[] other = args.clone();
            other[place] = v;
            return new Call(name, other);
        }

        String told() {
            String row = Arrays.toString(args);
            return name + "(" + row.substring(1, row.length() - 1) + ")";
        }
    }

    private final ReinHall x = new ReinHall();
    private int calls;

    private static Map<String, Method> methods() {
        Map<String, Method> found = new HashMap<>();
        for (Method m : ReinHall.class.getMethods()) {
            if (m.getDeclaringClass() == ReinHall.class) {
                found.put(m.getName(), m);
            }
        }
        return found;
    }

    /** Whether the first number of a call is a long. */
    static boolean takesLong(String name) {
        return METHODS.get(name).getParameterTypes()[0] == long.class;
    }

    static int numbersOf(String name) {
        return METHODS.get(name).getParameterCount();
    }

    static Iterable<String> names() {
        return METHODS.keySet();
    }

    long says(Call call) {
        calls++;
        if (calls > PROMISED) {
            throw new IllegalStateException("a test makes more calls than are promised");
        }
        Method m = METHODS.get(call.name);
        Object[] given = new Object[call.args.length];
        for (int i = 0; i < given.length; i++) {
            if (m.getParameterTypes()[i] == long.class) {
                given[i] = call.args[i];
            } else {
                given[i] = Math.toIntExact(call.args[i]);
            }
        }
        try {
            return ((Number) m.invoke(x, given)).longValue();
        } catch (InvocationTargetException e) {
            throw new IllegalStateException(call.told() + " throws", e.getCause());
        } catch (IllegalAccessException e) {
            throw new IllegalStateException(call.told() + " is not public", e);
        }
    }

    long says(String name, long... args) {
        return says(new Call(name, args));
    }

    Hall saysAll(List<Call> script) {
        for (Call call : script) {
            says(call);
        }
        return this;
    }

    static Hall of(String script) {
        return new Hall().saysAll(calls(script));
    }

    static Call call(String line) {
        String[] words = line.trim().split(" +");
        long[] args = new long[words.length - 1];
        for (int i = 0; i < args.length; i++) {
            args[i] = Long.parseLong(words[i + 1]);
        }
        return new Call(words[0], args);
    }

    static List<Call> calls(String script) {
        List<Call> found = new ArrayList<>();
        for (String line : script.split("\n")) {
            int star = line.indexOf("* ");
            int times = star < 0 ? 1 : Integer.parseInt(line.substring(0, star));
            String rest = star < 0 ? line : line.substring(star + 2);
            for (int i = 0; i < times && !rest.isEmpty(); i++) {
                if (rest.startsWith("typed ")) {
                    found.addAll(typing(rest.substring(6)));
                } else if (rest.startsWith("told ")) {
                    found.addAll(typing(rest.substring(5)));
                    found.add(new Call("world"));
                } else {
                    found.add(call(rest));
                }
            }
        }
        return found;
    }

    static List<Call> typing(String text) {
        List<Call> found = new ArrayList<>();
        for (int i = 0; i < text.length(); i += 8) {
            int n = Math.min(8, text.length() - i);
            long v = 0;
            for (int k = 0; k < n; k++) {
                v = v << 8 | text.charAt(i + k) & 0xFF;
            }
            found.add(new Call("type", v, n));
        }
        return found;
    }
}
