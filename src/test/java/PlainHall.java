import java.math.BigInteger;
import java.util.ArrayList;
import java.util.Arrays;
import java.util.BitSet;
import java.util.HashMap;
import java.util.List;
import java.util.Map;
import java.util.TreeMap;
import java.util.TreeSet;

/**
 * The document once more, written for the tests with the Java library, as near to its words as can be
 * and by other ways than the class: sets of states are tried one by one, deals are counted by subsets.
 */
final class PlainHall {
    static final int BAD = -1, STATE = -2, FULL = -3, NONE = -9;

    private static final class Master {
        int under, limit, spent;
    }

    private static final class Machine {
        int master, state, began, yes;
    }

    private static final class Leave {
        int machine, uses, till, of, master;
        BitSet doings;
        boolean withdrawn;
    }

    private static final class Line {
        int tick, machine, wanted, done, ahead, behind, leave, spent, lot;
        boolean undone;
    }

    private static final class Image {
        List<Master> masters = new ArrayList<>();
        List<Machine> machines = new ArrayList<>();
        List<Leave> leaves = new ArrayList<>();
        List<Line> lines = new ArrayList<>();
        int tick;

        Image copy() {
            Image c = new Image();
            for (Master m : masters) {
                Master n = new Master();
                n.under = m.under;
                n.limit = m.limit;
                n.spent = m.spent;
                c.masters.add(n);
            }
            for (Machine m : machines) {
                Machine n = new Machine();
                n.master = m.master;
                n.state = m.state;
                n.began = m.began;
                n.yes = m.yes;
                c.machines.add(n);
            }
            for (Leave l : leaves) {
                Leave n = new Leave();
                n.machine = l.machine;
                n.uses = l.uses;
                n.till = l.till;
                n.of = l.of;
                n.master = l.master;
                n.doings = (BitSet) l.doings.clone();
                n.withdrawn = l.withdrawn;
                c.leaves.add(n);
            }
            for (Line l : lines) {
                Line n = new Line();
                n.tick = l.tick;
                n.machine = l.machine;
                n.wanted = l.wanted;
                n.done = l.done;
                n.ahead = l.ahead;
                n.behind = l.behind;
                n.leave = l.leave;
                n.spent = l.spent;
                n.lot = l.lot;
                n.undone = l.undone;
                c.lines.add(n);
            }
            c.tick = tick;
            return c;
        }
    }

    private final StringBuilder text = new StringBuilder();
    private TreeMap<Integer, List<Integer>> ways = new TreeMap<>();
    private List<int[]> bars = new ArrayList<>();
    private TreeSet<Integer> never = new TreeSet<>();
    private TreeSet<Integer> goal = new TreeSet<>();
    private TreeSet<Integer> rest = new TreeSet<>();
    private TreeSet<Integer> safe = new TreeSet<>();

    private Image now = new Image();
    private final Map<Integer, Image> kept = new HashMap<>();
    private final int[] price = {1, 1, 1, 1, 1, 1, 1, 1};
    private final int[] kind = new int[8];
    private final Map<Integer, Integer> wish = new HashMap<>();
    private long trace;

    PlainHall() {
        for (int s = 0; s < 16; s++) {
            rest.add(s);
            safe.add(s);
        }
        Master top = new Master();
        top.under = NONE;
        top.limit = 1000;
        now.masters.add(top);
    }

    // ---- the text

    int type(long v, int n) {
        if (n < 1 || n > 8) {
            return BAD;
        }
        if (text.length() + n > 600) {
            return FULL;
        }
        byte[] bytes = BigInteger.valueOf(v).and(BigInteger.ONE.shiftLeft(64).subtract(BigInteger.ONE))
                .add(BigInteger.ONE.shiftLeft(64)).toByteArray();
        for (int i = 0; i < n; i++) {
            text.append((char) (bytes[bytes.length - n + i] & 0xFF));
        }
        return text.length();
    }

    int clear() {
        int had = text.length();
        text.setLength(0);
        return had;
    }

    /** Tokens as {start, sort, value}; sorts: n a number, d a doing, w a word (its first sign), > ; ? . (the end). */
    private List<int[]> tokens() {
        List<int[]> found = new ArrayList<>();
        java.util.regex.Matcher m = java.util.regex.Pattern.compile(" |[a-z]+|[0-9]+|[^ ]",
                java.util.regex.Pattern.DOTALL).matcher(text);
        while (m.find()) {
            String t = m.group();
            int sort = '?';
            int value = 0;
            if (t.equals(" ")) {
                continue;
            } else if (t.matches("[a-h]")) {
                sort = 'd';
                value = t.charAt(0) - 'a';
            } else if (t.matches("never|goal|rest|bar")) {
                sort = 'w';
                value = t.charAt(0);
            } else if (t.matches("[0-9]|1[0-5]")) {
                sort = 'n';
                value = Integer.parseInt(t);
            } else if (t.matches("[>;]")) {
                sort = t.charAt(0);
            }
            found.add(new int[] {m.start(), sort, value});
        }
        found.add(new int[] {text.length(), '.', 0});
        return found;
    }

    int world() {
        TreeMap<Integer, List<Integer>> newWays = new TreeMap<>();
        List<int[]> newBars = new ArrayList<>();
        Map<Integer, TreeSet<Integer>> sets = new HashMap<>();
        for (char c : "ngr".toCharArray()) {
            sets.put((int) c, new TreeSet<>());
        }
        // a machine of few places: what may come next
        String place = "item";
        int state = 0;
        int told = 0;
        int word = 0;
        List<Integer> lots = null;
        int[] bar = null;
        for (int[] t : tokens()) {
            int sort = t[1];
            boolean stands = false;
            switch (place) {
                case "item":
                    if (sort == '.') {
                        ways = newWays;
                        bars = newBars;
                        never = sets.get((int) 'n');
                        goal = sets.get((int) 'g');
                        rest = sets.get((int) 'r');
                        text.setLength(0);
                        settle();
                        return ways.size();
                    }
                    if (sort == 'n' && newWays.size() < 60) {
                        stands = true;
                        state = t[2];
                        place = "doing";
                    } else if (sort == 'w' && t[2] != 'b') {
                        stands = true;
                        word = t[2];
                        told = 0;
                        place = "row";
                    } else if (sort == 'w' && newBars.size() < 10) {
                        stands = true;
                        place = "from";
                    }
                    break;
                case "doing":
                    if (sort == 'd' && !newWays.containsKey(state * 8 + t[2])) {
                        stands = true;
                        lots = new ArrayList<>();
                        newWays.put(state * 8 + t[2], lots);
                        place = "arrow";
                    }
                    break;
                case "arrow":
                    stands = sort == '>';
                    place = "lots";
                    break;
                case "lots":
                    if (sort == 'n' && lots.size() < 4 && !lots.contains(t[2])) {
                        stands = true;
                        lots.add(t[2]);
                    } else if (sort == ';' && !lots.isEmpty()) {
                        stands = true;
                        place = "item";
                    }
                    break;
                case "row":
                    if (sort == 'n' && told < 16) {
                        stands = true;
                        told++;
                        sets.get(word).add(t[2]);
                    } else if (sort == ';' && told > 0) {
                        stands = true;
                        place = "item";
                    }
                    break;
                case "from":
                    stands = sort == 'n';
                    bar = new int[] {t[2], 0};
                    place = "bar arrow";
                    break;
                case "bar arrow":
                    stands = sort == '>';
                    place = "to";
                    break;
                case "to":
                    stands = sort == 'n';
                    bar[1] = t[2];
                    place = "bar end";
                    break;
                default:
                    stands = sort == ';';
                    newBars.add(bar);
                    place = "item";
                    break;
            }
            if (!stands) {
                return -10 - t[0];
            }
        }
        throw new IllegalStateException("a text without an end");
    }

    // ---- the world

    private List<Integer> lots(int state, int doing) {
        return ways.getOrDefault(state * 8 + doing, List.of());
    }

    private List<Integer> doingsIn(int state) {
        List<Integer> found = new ArrayList<>();
        for (int d = 0; d < 8; d++) {
            if (!lots(state, d).isEmpty()) {
                found.add(d);
            }
        }
        return found;
    }

    private boolean broken(int state) {
        return never.contains(state) || doingsIn(state).isEmpty() && !rest.contains(state);
    }

    /** Every set of states is tried; all that hold, taken together, are the greatest. */
    private void settle() {
        int brokenBits = 0;
        int restBits = 0;
        int[][] wayBits = new int[16][];
        for (int s = 0; s < 16; s++) {
            brokenBits |= broken(s) ? 1 << s : 0;
            restBits |= rest.contains(s) ? 1 << s : 0;
            List<Integer> doings = doingsIn(s);
            wayBits[s] = new int[doings.size()];
            for (int i = 0; i < doings.size(); i++) {
                for (int lot : lots(s, doings.get(i))) {
                    wayBits[s][i] |= 1 << lot;
                }
            }
        }
        int all = 0;
        for (int set = 0; set < 1 << 16; set++) {
            boolean holds = (set & brokenBits) == 0 && (set | all) != all;
            for (int s = 0; s < 16 && holds; s++) {
                if ((set >> s & 1) == 1 && (restBits >> s & 1) == 0) {
                    boolean one = false;
                    for (int w : wayBits[s]) {
                        one |= (w & set) == w;
                    }
                    holds = one;
                }
            }
            all |= holds ? set : 0;
        }
        safe = new TreeSet<>();
        for (int s = 0; s < 16; s++) {
            if ((all >> s & 1) == 1) {
                safe.add(s);
            }
        }
    }

    private static boolean in(int v, int least, int most) {
        return least <= v && v <= most;
    }

    private static int bits(Iterable<Integer> set) {
        int sum = 0;
        for (int s : set) {
            sum |= 1 << s;
        }
        return sum;
    }

    int set(int what) {
        List<Integer> brokenOnes = new ArrayList<>();
        for (int s = 0; s < 16; s++) {
            if (broken(s)) {
                brokenOnes.add(s);
            }
        }
        List<Iterable<Integer>> sets = Arrays.asList(never, goal, rest, brokenOnes, safe);
        return in(what, 0, 4) ? bits(sets.get(what)) : BAD;
    }

    int lot(int state, int doing, int i) {
        if (!in(state, 0, 15) || !in(doing, 0, 7)) {
            return BAD;
        }
        if (i == -1) {
            return lots(state, doing).size();
        }
        return in(i, 0, lots(state, doing).size() - 1) ? lots(state, doing).get(i) : BAD;
    }

    private TreeSet<Integer> letIn(int state) {
        TreeSet<Integer> found = new TreeSet<>();
        if (safe.contains(state)) {
            for (int d : doingsIn(state)) {
                if (safe.containsAll(lots(state, d))) {
                    found.add(d);
                }
            }
        }
        return found;
    }

    int let(int state) {
        return in(state, 0, 15) ? bits(letIn(state)) : BAD;
    }

    /** Whether within so many steps nothing keeps it off. */
    private boolean lost(int state, int steps, Map<Integer, Boolean> known) {
        if (broken(state)) {
            return true;
        }
        if (steps == 0 || rest.contains(state)) {
            return false;
        }
        int key = state * 100 + steps;
        if (!known.containsKey(key)) {
            boolean all = true;
            for (int d : doingsIn(state)) {
                boolean some = false;
                for (int lot : lots(state, d)) {
                    some |= lost(lot, steps - 1, known);
                }
                all &= some;
            }
            known.put(key, all);
        }
        return known.get(key);
    }

    private int doomOf(int state) {
        Map<Integer, Boolean> known = new HashMap<>();
        for (int steps = 0; steps <= 20; steps++) {
            if (lost(state, steps, known)) {
                return steps;
            }
        }
        return NONE;
    }

    int doom(int state) {
        return in(state, 0, 15) ? doomOf(state) : BAD;
    }

    private boolean comes(int state, TreeSet<Integer> to, int steps, Map<Integer, Boolean> known) {
        if (!safe.contains(state)) {
            return false;
        }
        if (to.contains(state)) {
            return true;
        }
        if (steps == 0) {
            return false;
        }
        int key = state * 100 + steps;
        if (!known.containsKey(key)) {
            boolean some = false;
            for (int d : letIn(state)) {
                boolean all = true;
                for (int lot : lots(state, d)) {
                    all &= comes(lot, to, steps - 1, known);
                }
                some |= all;
            }
            known.put(key, some);
        }
        return known.get(key);
    }

    private int sureOf(int state, TreeSet<Integer> to) {
        Map<Integer, Boolean> known = new HashMap<>();
        for (int steps = 0; steps <= 20; steps++) {
            if (comes(state, to, steps, known)) {
                return steps;
            }
        }
        return NONE;
    }

    int sure(int state, int set, int what) {
        if (!in(state, 0, 15) || !in(set, 1, 2) || !in(what, 0, 1)) {
            return BAD;
        }
        TreeSet<Integer> to = set == 1 ? goal : rest;
        int sure = sureOf(state, to);
        if (what == 0 || sure == NONE || sure == 0) {
            return what == 0 ? sure : NONE;
        }
        for (int d : letIn(state)) {
            int greatest = 0;
            for (int lot : lots(state, d)) {
                int s = sureOf(lot, to);
                greatest = Math.max(greatest, s == NONE ? 1000 : s);
            }
            if (greatest + 1 == sure) {
                return d;
            }
        }
        throw new IllegalStateException("sure, but by no doing");
    }

    private int insteadOf(int state, int doing) {
        TreeSet<Integer> let = letIn(state);
        if (let.contains(doing)) {
            return doing;
        }
        if (!let.isEmpty()) {
            for (int gap = 0; gap <= 20; gap++) {
                for (int d : let) {
                    if (Math.abs(price[d] - price[doing]) == gap) {
                        return d;
                    }
                }
            }
        }
        if (rest.contains(state)) {
            return NONE;
        }
        for (int least = 30; least >= 0; least--) {
            for (int d : doingsIn(state)) {
                int doom = 30;
                for (int lot : lots(state, d)) {
                    doom = doomOf(lot) == NONE ? doom : Math.min(doom, doomOf(lot));
                }
                if (doom == least) {
                    return d;
                }
            }
        }
        return NONE;
    }

    int instead(int state, int doing) {
        return in(state, 0, 15) && in(doing, 0, 7) ? insteadOf(state, doing) : BAD;
    }

    // ---- doings, masters, machines

    int doing(int d, int what, int v) {
        if (!in(d, 0, 7) || !in(what, 0, 1) || !in(v, 0, what == 0 ? 20 : 5)) {
            return BAD;
        }
        int[] row = what == 0 ? price : kind;
        int was = row[d];
        row[d] = v;
        return was;
    }

    private int dueOf(int k, int d, boolean traced) {
        long[] mark = {1, 10, 100, 1000, 10000, 100000};
        int[] above = {-1, 0, 0, 2, 0, 0};
        trace += traced ? mark[k] : 0;
        if (k == 0) {
            return price[d];
        }
        double up = dueOf(above[k], d, traced);
        switch (k) {
            case 1: return (int) Math.floor(up / 3);
            case 2: return (int) up + 1;
            case 3: return (int) Math.ceil(up / 2);
            case 4: return (int) up + 2;
            default: return (int) up * 2;
        }
    }

    int due(int k, int d) {
        return in(k, 0, 5) && in(d, 0, 7) ? dueOf(k, d, true) : BAD;
    }

    private boolean isMaster(int m) {
        return in(m, 0, now.masters.size() - 1);
    }

    private boolean isMachine(int m) {
        return in(m, 0, now.machines.size() - 1);
    }

    int master(int under, int limit) {
        if (!isMaster(under) || !in(limit, 0, 1000)) {
            return BAD;
        }
        if (now.masters.size() == 8) {
            return FULL;
        }
        Master m = new Master();
        m.under = under;
        m.limit = limit;
        now.masters.add(m);
        wish.remove(now.masters.size() - 1);
        return now.masters.size() - 1;
    }

    int limit(int master, int v) {
        if (!isMaster(master) || !in(v, 0, 1000)) {
            return BAD;
        }
        Master m = now.masters.get(master);
        if (v < m.spent) {
            return STATE;
        }
        int was = m.limit;
        m.limit = v;
        return was;
    }

    int machine(int master, int state) {
        if (!isMaster(master) || !in(state, 0, 15)) {
            return BAD;
        }
        if (now.machines.size() == 4) {
            return FULL;
        }
        Machine m = new Machine();
        m.master = master;
        m.state = state;
        m.began = state;
        now.machines.add(m);
        return now.machines.size() - 1;
    }

    /** A master and all above it. */
    private List<Integer> upFrom(int master) {
        List<Integer> up = new ArrayList<>();
        for (int m = master; m != NONE; m = now.masters.get(m).under) {
            up.add(m);
        }
        return up;
    }

    /** A leave and all up to that which was given. */
    private List<Integer> chain(int leave) {
        List<Integer> up = new ArrayList<>();
        for (int l = leave; l != NONE; l = now.leaves.get(l).of) {
            up.add(l);
        }
        return up;
    }

    private boolean stands(int leave) {
        for (int i : chain(leave)) {
            Leave l = now.leaves.get(i);
            if (l.withdrawn || l.uses == 0 || l.till < now.tick) {
                return false;
            }
        }
        return true;
    }

    private int newLeave(int machine, int doings, int uses, int till, int of, int master) {
        if (now.leaves.size() == 20) {
            return FULL;
        }
        Leave l = new Leave();
        l.machine = machine;
        l.doings = BitSet.valueOf(new long[] {doings});
        l.uses = uses;
        l.till = till;
        l.of = of;
        l.master = master;
        now.leaves.add(l);
        return now.leaves.size() - 1;
    }

    int give(int master, int machine, int doings, int uses, int till) {
        if (!isMaster(master) || !isMachine(machine) || !in(doings, 0, 255) || !in(uses, 1, 20)
                || !in(till, 0, 100)) {
            return BAD;
        }
        if (!upFrom(now.machines.get(machine).master).contains(master)) {
            return STATE;
        }
        return newLeave(machine, doings, uses, till, NONE, master);
    }

    int lend(int leave, int machine, int doings, int uses, int till) {
        if (!in(leave, 0, now.leaves.size() - 1) || !isMachine(machine) || !in(doings, 0, 255)
                || !in(uses, 1, 20) || !in(till, 0, 100)) {
            return BAD;
        }
        Leave l = now.leaves.get(leave);
        BitSet more = BitSet.valueOf(new long[] {doings});
        more.andNot(l.doings);
        if (!stands(leave) || l.machine == machine || !more.isEmpty() || uses > l.uses || till > l.till) {
            return STATE;
        }
        return newLeave(machine, doings, uses, till, leave, l.master);
    }

    private int withdrawAll(int leave) {
        int sum = now.leaves.get(leave).withdrawn ? 0 : 1;
        now.leaves.get(leave).withdrawn = true;
        for (int i = 0; i < now.leaves.size(); i++) {
            if (now.leaves.get(i).of == leave) {
                sum += withdrawAll(i);
            }
        }
        return sum;
    }

    int withdraw(int leave) {
        if (!in(leave, 0, now.leaves.size() - 1)) {
            return BAD;
        }
        return now.leaves.get(leave).withdrawn ? STATE : withdrawAll(leave);
    }

    int leave(int i, int what) {
        if (!in(i, 0, now.leaves.size() - 1)) {
            return BAD;
        }
        Leave l = now.leaves.get(i);
        switch (what) {
            case 0: return l.machine;
            case 1: return bits(l.doings.stream().boxed().toList());
            case 2: return l.uses;
            case 3: return l.till;
            case 4: return l.of;
            case 5: return now.leaves.get(chain(i).get(chain(i).size() - 1)).master;
            case 6: return stands(i) ? 1 : 0;
            case 7: return l.withdrawn ? 1 : 0;
            default: return BAD;
        }
    }

    int yes(int machine) {
        if (!isMachine(machine)) {
            return BAD;
        }
        Machine m = now.machines.get(machine);
        if (m.yes == 9) {
            return FULL;
        }
        m.yes++;
        return m.yes;
    }

    // ---- acts

    int act(int machine, int doing, int lot, int guard) {
        if (!isMachine(machine) || !in(doing, 0, 7) || !in(lot, 0, 3) || !in(guard, 0, 1)) {
            return BAD;
        }
        Machine m = now.machines.get(machine);
        int done = guard == 1 ? insteadOf(m.state, doing) : doing;
        if (done == NONE || lot >= lots(m.state, done).size()) {
            return -11;
        }
        int leave = NONE;
        for (int i = now.leaves.size() - 1; i >= 0; i--) {
            Leave l = now.leaves.get(i);
            leave = l.machine == machine && l.doings.get(done) && stands(i) ? i : leave;
        }
        if (leave == NONE) {
            return -12;
        }
        boolean asked = kind[done] == 2 || kind[done] == 3;
        if (asked && m.yes == 0) {
            return -13;
        }
        int amount = dueOf(kind[done], done, false);
        for (int up : upFrom(m.master)) {
            if (now.masters.get(up).spent + amount > now.masters.get(up).limit) {
                return -14;
            }
        }
        if (now.lines.size() == 60) {
            return -15;
        }
        for (int l : chain(leave)) {
            now.leaves.get(l).uses--;
        }
        m.yes -= asked ? 1 : 0;
        for (int up : upFrom(m.master)) {
            now.masters.get(up).spent += amount;
        }
        Line line = new Line();
        line.tick = now.tick;
        line.machine = machine;
        line.wanted = doing;
        line.done = done;
        line.ahead = m.state;
        m.state = lots(m.state, done).get(lot);
        line.behind = m.state;
        line.leave = leave;
        line.spent = amount;
        line.lot = lot;
        now.lines.add(line);
        now.tick++;
        return done;
    }

    int undo(int machine) {
        if (!isMachine(machine)) {
            return BAD;
        }
        for (int i = now.lines.size() - 1; i >= 0; i--) {
            Line l = now.lines.get(i);
            if (l.machine == machine) {
                if (l.undone || kind[l.done] != 4) {
                    return STATE;
                }
                l.undone = true;
                now.machines.get(machine).state = l.ahead;
                for (int up : upFrom(now.machines.get(machine).master)) {
                    now.masters.get(up).spent -= l.spent;
                }
                return i;
            }
        }
        return STATE;
    }

    int wait(int n) {
        if (!in(n, 1, 50)) {
            return BAD;
        }
        if (now.tick + n > 100) {
            return STATE;
        }
        now.tick += n;
        return now.tick;
    }

    int line(int i, int what) {
        if (!in(i, 0, now.lines.size() - 1)) {
            return BAD;
        }
        Line l = now.lines.get(i);
        switch (what) {
            case 0: return l.tick;
            case 1: return l.machine;
            case 2: return l.wanted;
            case 3: return l.done;
            case 4: return l.ahead;
            case 5: return l.behind;
            case 6: return l.leave;
            case 7: return l.spent;
            case 8: return l.undone ? 1 : 0;
            default: return BAD;
        }
    }

    int led(int line, int k) {
        if (!in(line, 0, now.lines.size() - 1)) {
            return BAD;
        }
        List<Integer> leaves = chain(now.lines.get(line).leave);
        return k == -1 ? leaves.size() : in(k, 0, leaves.size() - 1) ? leaves.get(k) : BAD;
    }

    int about(int machine, int what) {
        if (!isMachine(machine) || !in(what, 0, 3)) {
            return BAD;
        }
        Machine m = now.machines.get(machine);
        long lines = now.lines.stream().filter(l -> l.machine == machine).count();
        return new int[] {m.state, m.master, m.yes, (int) lines}[what];
    }

    int budget(int master, int what) {
        if (!isMaster(master) || !in(what, 0, 2)) {
            return BAD;
        }
        Master m = now.masters.get(master);
        return new int[] {m.under, m.limit, m.spent}[what];
    }

    // ---- watching

    private boolean leads(int from, int to, int[] row, int done) {
        if (done == row.length) {
            return from == to;
        }
        for (int lot : lots(from, row[done])) {
            if (leads(lot, to, row, done + 1)) {
                return true;
            }
        }
        return false;
    }

    int round(int what) {
        if (!in(what, 0, 3)) {
            return BAD;
        }
        List<int[]> rows = new ArrayList<>();
        for (int b = 0; b < bars.size(); b++) {
            for (int i = 0; i < 64; i++) {
                if (leads(bars.get(b)[0], bars.get(b)[1], new int[] {i / 8, i % 8}, 0)) {
                    rows.add(new int[] {b, 2, i / 8 + 8 * (i % 8)});
                }
            }
            for (int i = 0; i < 512; i++) {
                if (leads(bars.get(b)[0], bars.get(b)[1], new int[] {i / 64, i / 8 % 8, i % 8}, 0)) {
                    rows.add(new int[] {b, 3, i / 64 + 8 * (i / 8 % 8) + 64 * (i % 8)});
                }
            }
        }
        return what == 0 ? rows.size() : rows.isEmpty() ? NONE : rows.get(0)[what - 1];
    }

    long odd(int machine, int doing, int what) {
        if (!isMachine(machine) || !in(doing, 0, 7) || !in(what, 0, 1)) {
            return BAD;
        }
        if (now.lines.size() > 30) {
            return STATE;
        }
        int marked = 0;
        int own = 0;
        int both = 0;
        for (Line l : now.lines) {
            marked += l.done == doing ? 1 : 0;
            own += l.machine == machine ? 1 : 0;
            both += l.done == doing && l.machine == machine ? 1 : 0;
        }
        // deals[k][n]: of the lines so far n are dealt, k of these are marked
        long[][] deals = new long[32][32];
        deals[0][0] = 1;
        for (int i = 0; i < now.lines.size(); i++) {
            int step = i < marked ? 1 : 0;
            for (int k = 30; k >= 0; k--) {
                for (int n = 30; n >= 0; n--) {
                    deals[k + step][n + 1] += deals[k][n];
                }
            }
        }
        long sum = 0;
        for (int k = what == 1 ? 0 : both; k <= 30; k++) {
            sum += deals[k][own];
        }
        return sum;
    }

    int wish(int master, int states) {
        if (!isMaster(master) || !in(states, 0, 65535)) {
            return BAD;
        }
        Integer was = wish.put(master, states);
        return was == null ? 0 : was;
    }

    int wished(int state) {
        if (!in(state, 0, 15)) {
            return BAD;
        }
        List<Integer> left = new ArrayList<>(letIn(state));
        for (int m = 0; m < now.masters.size() && !left.isEmpty(); m++) {
            int best = -1;
            List<Integer> bestOnes = new ArrayList<>();
            for (int d : left) {
                int part = 0;
                for (int lot : lots(state, d)) {
                    // 1, 2, 3 and 4 all go into 12
                    part += (wish.getOrDefault(m, 0) >> lot & 1) * 12 / lots(state, d).size();
                }
                if (part > best) {
                    best = part;
                    bestOnes.clear();
                }
                if (part == best) {
                    bestOnes.add(d);
                }
            }
            left = bestOnes;
        }
        return left.isEmpty() ? NONE : left.get(0);
    }

    int quarrel() {
        for (int pair = 0; pair < 64; pair++) {
            int a = pair / 8;
            int b = pair % 8;
            if (a < b && isMaster(b)) {
                int one = wish.getOrDefault(a, 0);
                int other = wish.getOrDefault(b, 0);
                if (one != 0 && other != 0 && (one & other) == 0) {
                    return pair;
                }
            }
        }
        return NONE;
    }

    int beside(int machine) {
        if (!isMachine(machine)) {
            return BAD;
        }
        int at = now.machines.get(machine).began;
        for (Line l : now.lines) {
            if (l.machine == machine && !l.undone && !lots(at, l.wanted).isEmpty()) {
                List<Integer> lots = lots(at, l.wanted);
                at = lots.get(Math.min(l.lot, lots.size() - 1));
            }
        }
        return at;
    }

    int keep(int image) {
        if (!in(image, 0, 1)) {
            return BAD;
        }
        kept.put(image, now.copy());
        return now.tick;
    }

    int back(int image) {
        if (!in(image, 0, 1)) {
            return BAD;
        }
        if (!kept.containsKey(image)) {
            return STATE;
        }
        now = kept.get(image).copy();
        return now.tick;
    }

    int count(int what) {
        if (!in(what, 0, 8)) {
            return BAD;
        }
        int standing = 0;
        for (int i = 0; i < now.leaves.size(); i++) {
            standing += stands(i) ? 1 : 0;
        }
        return new int[] {ways.size(), bars.size(), now.masters.size(), now.machines.size(),
            now.leaves.size(), now.lines.size(), now.tick, text.length(), standing}[what];
    }

    long trace() {
        return trace;
    }
}
