import java.util.ArrayList;
import java.util.Arrays;
import java.util.HashMap;
import java.util.List;
import java.util.Map;

/**
 * All that other calls answer after some calls. That takes more calls than one object is promised, so
 * the same calls are made on an object for each part of it.
 */
final class Watch {
    private static final List<List<Hall.Call>> PARTS = parts();
    private static final Map<String, long[]> KNOWN = new HashMap<>();

    private Watch() { }

    /** Whether a call changes nothing that others answer; where it does, that is told. */
    static boolean changesNothing(String script, Hall.Call call) {
        long[] before = KNOWN.computeIfAbsent(script, k -> after(Hall.calls(script)));
        List<Hall.Call> more = new ArrayList<>(Hall.calls(script));
        more.add(call);
        long[] behind = after(more);
        if (Arrays.equals(before, behind)) {
            return true;
        }
        int i = Arrays.mismatch(before, behind);
        System.out.println(call.told() + " changes what " + callAt(i).told() + " answers: " + before[i]
                + ", then " + behind[i]);
        return false;
    }

    static long[] after(List<Hall.Call> script) {
        List<Long> answers = new ArrayList<>();
        for (List<Hall.Call> part : PARTS) {
            Hall x = new Hall().saysAll(script);
            for (Hall.Call call : part) {
                answers.add(x.says(call));
            }
        }
        return answers.stream().mapToLong(v -> v).toArray();
    }

    private static Hall.Call callAt(int i) {
        int left = i;
        for (List<Hall.Call> part : PARTS) {
            if (left < part.size()) {
                return part.get(left);
            }
            left -= part.size();
        }
        throw new IllegalStateException("no such call");
    }

    private static List<List<Hall.Call>> parts() {
        List<List<Hall.Call>> all = new ArrayList<>();
        all.add(join(every("set", 5), every("let", 16), every("doom", 16), every("wished", 16),
                every("round", 4), every("quarrel"), every("trace"), every("count", 9),
                every("beside", 4), every("about", 4, 4), every("budget", 8, 3)));
        all.add(join(sure(), every("instead", 16, 8)));
        all.add(lots(-1));
        all.add(join(lots(0), lots(1)));
        all.add(join(lots(2), lots(3)));
        all.add(join(every("leave", 20, 8), every("odd", 4, 8, 2)));
        for (int from = 0; from < 60; from += 20) {
            all.add(lines(from));
        }
        // these calls change what they tell, so they come last
        all.add(join(every("clear"), pairs("doing", 8, 0), pairs("doing", 8, 1), pairs("wish", 8)));
        all.add(join(every("world"), lots(-1), every("set", 5), every("round", 4)));
        all.add(join(every("world"), lots(0), every("count", 9)));
        for (int image = 0; image < 2; image++) {
            List<Hall.Call> back = List.of(new Hall.Call("back", image));
            all.add(join(back, every("count", 9), every("about", 4, 4), every("budget", 8, 3),
                    every("leave", 20, 8)));
            all.add(join(back, lines(0)));
            all.add(join(back, lines(40)));
        }
        return all;
    }

    @SafeVarargs
    private static List<Hall.Call> join(List<Hall.Call>... parts) {
        List<Hall.Call> all = new ArrayList<>();
        for (List<Hall.Call> part : parts) {
            all.addAll(part);
        }
        return all;
    }

    /** A call with all numbers from 0 on, each below its bound. */
    private static List<Hall.Call> every(String name, int... bounds) {
        List<Hall.Call> all = new ArrayList<>();
        all.add(new Hall.Call(name, new long[bounds.length]));
        for (int place = 0; place < bounds.length; place++) {
            List<Hall.Call> more = new ArrayList<>();
            for (Hall.Call call : all) {
                for (int v = 0; v < bounds[place]; v++) {
                    more.add(call.with(place, v));
                }
            }
            all = more;
        }
        return all;
    }

    /** A call with a first number below a bound, the others as told, and 0 last. */
    private static List<Hall.Call> pairs(String name, int bound, long... told) {
        List<Hall.Call> all = new ArrayList<>();
        for (int v = 0; v < bound; v++) {
            long[] args = new long[told.length + 2];
            args[0] = v;
            System.arraycopy(told, 0, args, 1, told.length);
            all.add(new Hall.Call(name, args));
        }
        return all;
    }

    private static List<Hall.Call> sure() {
        List<Hall.Call> all = new ArrayList<>();
        for (int s = 0; s < 16; s++) {
            for (int what = 0; what < 4; what++) {
                all.add(new Hall.Call("sure", s, 1 + what / 2, what % 2));
            }
        }
        return all;
    }

    private static List<Hall.Call> lots(int i) {
        List<Hall.Call> all = new ArrayList<>();
        for (int way = 0; way < 128; way++) {
            all.add(new Hall.Call("lot", way / 8, way % 8, i));
        }
        return all;
    }

    private static List<Hall.Call> lines(int from) {
        List<Hall.Call> all = new ArrayList<>();
        for (int line = from; line < from + 20; line++) {
            for (int what = 0; what < 9; what++) {
                all.add(new Hall.Call("line", line, what));
            }
            all.add(new Hall.Call("led", line, -1));
            all.add(new Hall.Call("led", line, 1));
        }
        return all;
    }
}
