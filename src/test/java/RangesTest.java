/**
 * Every number of every call: one below, at and above its bounds, and the least and the greatest int,
 * on an object that is new, on one with something of everything, and on one that is full. Where a
 * number is not as told the answer is BAD, ahead of STATE and FULL, and nothing changes.
 */
public final class RangesTest {
    /** Some of these are near in bits to numbers that stand: a shift or a cast would take them for one. */
    private static final long[] FAR = {
        -1L << 31, (-1L << 31) + 1, -65536, -256, -32, -16, -9, -8, -3, -2, -1, 1, 2, 3, 4, 5, 6, 7, 8, 9, 10,
        15, 16, 20, 21, 31, 32, 33, 50, 51, 60, 63, 64, 100, 101, 127, 128, 255, 256, 257, 512, 600, 1000, 1001,
        32767, 32768, 65535, 65536, 65537, 1 << 24, 1 << 30, Integer.MAX_VALUE - 1, Integer.MAX_VALUE,
    };

    private final String scene;
    private final java.util.TreeSet<String> seen = new java.util.TreeSet<>();

    private RangesTest(String scene) {
        this.scene = scene;
    }

    public static void main(String[] args) {
        new RangesTest(Scenes.NEW).all(1, 0, 0, 0);
        new RangesTest(Scenes.MIDDLE).all(4, 3, 5, 5);
        new RangesTest(Scenes.FULL).all(8, 4, 20, 60);
        Check.finish();
    }

    private void all(int masters, int machines, int leaves, int lines) {
        int[] counts = {masters, machines, leaves, lines};
        for (int i = 0; i < counts.length; i++) {
            Check.due("count(" + (2 + i) + ")", Hall.of(scene).says("count", 2 + i), counts[i]);
        }
        ofTheWorld();
        ofMasters(masters - 1, machines - 1, leaves - 1);
        ofActs(machines - 1, lines - 1);
        ofWatching(masters - 1, machines - 1);
        for (String name : Hall.names()) {
            int from = name.equals("type") ? 1 : 0;
            for (int place = from; place < Hall.numbersOf(name); place++) {
                Check.holds(name + ", number " + place + " is tried", seen.contains(name + place));
            }
        }
    }

    private void ofTheWorld() {
        number("type 32 1", 1, 1, 8);
        number("set 0", 0, 0, 4);
        number("lot 0 0 -1", 0, 0, 15);
        number("lot 0 0 -1", 1, 0, 7);
        number("lot 0 0 -1", 2, -1, Hall.of(scene).says("lot", 0, 0, -1) - 1);
        number("lot 15 7 -1", 2, -1, -1);
        number("let 0", 0, 0, 15);
        number("doom 0", 0, 0, 15);
        number("sure 0 1 0", 0, 0, 15);
        number("sure 0 1 0", 1, 1, 2);
        number("sure 0 1 0", 2, 0, 1);
        number("instead 0 0", 0, 0, 15);
        number("instead 0 0", 1, 0, 7);
    }

    private void ofMasters(int master, int machine, int leave) {
        number("doing 0 0 1", 0, 0, 7);
        number("doing 0 0 1", 1, 0, 1);
        number("doing 0 0 1", 2, 0, 20);
        number("doing 0 1 1", 2, 0, 5);
        number("due 0 0", 0, 0, 5);
        number("due 0 0", 1, 0, 7);
        number("master 0 5", 0, 0, master);
        number("master 0 5", 1, 0, 1000);
        number("limit 0 999", 0, 0, master);
        number("limit 0 999", 1, 0, 1000);
        number("machine 0 0", 0, 0, master);
        number("machine 0 0", 1, 0, 15);
        leaveNumbers("give", master, machine);
        leaveNumbers("lend", leave, machine);
        number("withdraw 0", 0, 0, leave);
        number("leave 0 0", 0, 0, leave);
        number("leave 0 0", 1, 0, 7);
        number("yes 0", 0, 0, machine);
    }

    private void leaveNumbers(String name, int first, int machine) {
        number(name + " 0 0 1 1 1", 0, 0, first);
        number(name + " 0 0 1 1 1", 1, 0, machine);
        number(name + " 0 0 1 1 1", 2, 0, 255);
        number(name + " 0 0 1 1 1", 3, 1, 20);
        number(name + " 0 0 1 1 1", 4, 0, 100);
    }

    private void ofActs(int machine, int line) {
        number("act 0 0 0 0", 0, 0, machine);
        number("act 0 0 0 0", 1, 0, 7);
        number("act 0 0 0 0", 2, 0, 3);
        number("act 0 0 0 0", 3, 0, 1);
        number("undo 0", 0, 0, machine);
        number("wait 1", 0, 1, 50);
        number("line 0 0", 0, 0, line);
        number("line 0 0", 1, 0, 8);
        number("led 0 -1", 0, 0, line);
        number("led 0 -1", 1, -1, line < 0 ? -1 : Hall.of(scene).says("led", 0, -1) - 1);
        number("about 0 0", 0, 0, machine);
        number("about 0 0", 1, 0, 3);
    }

    private void ofWatching(int master, int machine) {
        number("budget 0 0", 0, 0, master);
        number("budget 0 0", 1, 0, 2);
        number("round 0", 0, 0, 3);
        number("odd 0 0 0", 0, 0, machine);
        number("odd 0 0 0", 1, 0, 7);
        number("odd 0 0 0", 2, 0, 1);
        number("wish 0 1", 0, 0, master);
        number("wish 0 1", 1, 0, 65535);
        number("wished 0", 0, 0, 15);
        number("beside 0", 0, 0, machine);
        number("keep 0", 0, 0, 1);
        number("back 0", 0, 0, 1);
        number("count 0", 0, 0, 8);
    }

    private long answer(Hall.Call call) {
        return Hall.of(scene).says(call);
    }

    /** A number of a call stands from low to high and nowhere else. */
    private void number(String line, int place, long low, long high) {
        Hall.Call call = Hall.call(line);
        seen.add(call.name + place);
        if (answer(call) != ReinHall.BAD) {
            for (long v : new long[] {low, low + 1, high - 1, high}) {
                boolean within = v >= low && v <= high;
                Check.holds(call.with(place, v).told() + " is not BAD",
                        !within || answer(call.with(place, v)) != ReinHall.BAD);
            }
        } else {
            Check.holds(call.told() + " is BAD, since there is no such thing", scene.equals(Scenes.NEW));
        }
        for (long v : FAR) {
            if (v < low || v > high) {
                Check.due(call.with(place, v).told(), answer(call.with(place, v)), ReinHall.BAD);
            }
        }
        for (long v : new long[] {Integer.MIN_VALUE, low - 1, high + 1, Integer.MAX_VALUE}) {
            Check.due(call.with(place, v).told(), answer(call.with(place, v)), ReinHall.BAD);
            Check.holds(call.with(place, v).told() + " changes nothing",
                    Watch.changesNothing(scene, call.with(place, v)));
        }
    }
}
