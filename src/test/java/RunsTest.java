import java.util.Random;

/** Long runs of calls by fixed seeds: the class answers as PlainHall does, and never throws. */
public final class RunsTest {
    private static final int RUNS = 1500;
    /** No more calls of one object are promised. */
    private static final int CALLS = 512;

    private final Random random;
    private final ReinHall x = new ReinHall();
    private final PlainHall y = new PlainHall();
    private final StringBuilder told = new StringBuilder();
    private final int temper;
    private int calls = 0;

    private RunsTest(long seed) {
        random = new Random(seed);
        temper = (int) (seed % 4);
    }

    public static void main(String[] args) {
        int bad = 0;
        int[] answers = new int[8];
        for (long seed = 0; seed < RUNS && bad < 5; seed++) {
            RunsTest run = new RunsTest(seed);
            bad += run.goesAlike(seed, answers) ? 0 : 1;
        }
        Check.due("runs that go apart", bad, 0);
        for (int why = 1; why <= 5; why++) {
            Check.holds("acts are refused by " + why + ": " + answers[why], answers[why] > 100);
        }
        Check.holds("acts are done: " + answers[0], answers[0] > 1000);
        Check.holds("worlds are told: " + answers[6], answers[6] > 500);
        Check.holds("worlds have faults: " + answers[7], answers[7] > 500);
        Check.finish();
    }

    private boolean goesAlike(long seed, int[] answers) {
        boolean isTyped = false;
        boolean mustClear = false;
        String left = worldText(8);
        if (temper == 3) {
            equip();
        }
        while (calls < CALLS) {
            long[] pair;
            if (!left.isEmpty()) {
                int n = Math.min(left.length(), 8);
                pair = type(left.substring(0, n));
                left = left.substring(n);
                isTyped = left.isEmpty();
            } else if (isTyped) {
                isTyped = false;
                pair = says("world", x.world(), y.world());
                answers[pair[0] >= 0 ? 6 : 7]++;
                mustClear = pair[0] < 0 && random.nextInt(3) > 0;
            } else if (mustClear) {
                mustClear = false;
                pair = says("clear", x.clear(), y.clear());
            } else if (random.nextInt(150) == 0) {
                left = worldText(random.nextInt(9));
                continue;
            } else {
                pair = any(answers);
            }
            if (pair[0] != pair[1]) {
                int from = Math.max(0, told.length() - 3000);
                System.out.println("run " + seed + ": .." + told.substring(from) + " answered " + pair[0]
                        + ", due is " + pair[1]);
                return false;
            }
        }
        return true;
    }

    /** Machines that can act for long, so that all lines are written. */
    private void equip() {
        for (int i = 0; i < 8; i++) {
            says("machine", x.machine(0, i), y.machine(0, i), 0, i);
            says("doing", x.doing(i, 0, i % 3), y.doing(i, 0, i % 3), i, 0, i % 3);
            says("give", x.give(0, i % 2, 255, 20, 100), y.give(0, i % 2, 255, 20, 100), 0, i % 2, 255, 20, 100);
        }
    }

    private long[] type(String part) {
        long v = random.nextInt(4) == 0 ? random.nextLong() : 0;
        for (char c : part.toCharArray()) {
            v = v << 8 | c;
        }
        calls++;
        told.append(" type(").append(v).append("L, ").append(part.length()).append(")");
        return new long[] {x.type(v, part.length()), y.type(v, part.length())};
    }

    // ---- texts

    private String blank() {
        return random.nextInt(6) == 0 ? "  ".substring(random.nextInt(2)) : "";
    }

    private String states(int most, int states) {
        StringBuilder row = new StringBuilder();
        int n = 1 + random.nextInt(most);
        for (int i = 0; i < n; i++) {
            row.append(i == 0 ? blank() : " ").append(random.nextInt(states));
        }
        return row + blank();
    }

    private String worldText(int sort) {
        int states = sort == 0 ? 16 : 2 + random.nextInt(9);
        int items = 3 + random.nextInt(sort == 1 ? 90 : 22);
        StringBuilder text = new StringBuilder();
        for (int i = 0; i < items; i++) {
            String item;
            switch (random.nextInt(12)) {
                case 0: item = "never " + states(sort == 2 ? 20 : 2, 16) + ";"; break;
                case 1: item = "goal " + states(3, states) + ";"; break;
                case 2: item = "rest " + states(3, 16) + ";"; break;
                case 3: item = "bar " + random.nextInt(states) + blank() + ">" + states(1, states) + ";"; break;
                default: item = way(states);
            }
            if (text.length() + item.length() < 590) {
                text.append(blank()).append(item);
            }
        }
        if (random.nextInt(4) == 0) {
            spoil(text);
        }
        return text.length() > 600 ? text.substring(0, 600) : text.toString();
    }

    /** A way with unlike lots, mostly. */
    private String way(int states) {
        StringBuilder row = new StringBuilder();
        boolean[] told = new boolean[16];
        int n = 1 + random.nextInt(random.nextInt(20) == 0 ? 5 : random.nextInt(3) == 0 ? 4 : 2);
        for (int i = 0; i < n; i++) {
            int lot = random.nextInt(states);
            if (!told[lot] || random.nextInt(100) == 0) {
                row.append(row.length() == 0 ? blank() : " ").append(lot);
                told[lot] = true;
            }
        }
        return random.nextInt(states) + (random.nextBoolean() ? " " : "") + doing(row.toString());
    }

    private int nextDoing = 0;

    /** Doings go round, so that few ways are told twice. */
    private String doing(String lots) {
        nextDoing = random.nextInt(40) == 0 ? random.nextInt(8) : (nextDoing + 3) % 8;
        return (char) ('a' + nextDoing) + blank() + ">" + lots + blank() + ";";
    }

    private void spoil(StringBuilder text) {
        String signs = " ;>0123456789abhiz.AZ\t\377never";
        int place = random.nextInt(text.length() + 1);
        switch (random.nextInt(3)) {
            case 0: text.insert(place, signs.charAt(random.nextInt(signs.length()))); break;
            case 1: text.delete(place, text.length()); break;
            default:
                if (place < text.length()) {
                    text.deleteCharAt(place);
                }
        }
    }

    // ---- calls

    /** A number of 0 .. most, now and then one beyond. */
    private int upTo(int most) {
        int dice = random.nextInt(400);
        switch (dice) {
            case 0: return -1;
            case 1: return most + 1;
            case 2: return random.nextInt();
            case 3: return Integer.MIN_VALUE;
            case 4: return Integer.MAX_VALUE;
            case 5: return -9;
            default: return most < 0 ? dice % 2 : random.nextInt(most + 1);
        }
    }

    private int some(int count) {
        return upTo(y.count(count) - 1);
    }

    private long[] any(int[] answers) {
        switch (random.nextInt(temper == 3 ? 14 : 8)) {
            case 0: return ofTheWorld();
            case 1: return ofLeaves();
            case 2: return ofMasters();
            case 3: return watching();
            case 4: return lines();
            case 5: return random.nextInt(3) == 0 ? seldom() : act(answers);
            default: return act(answers);
        }
    }

    private long[] says(String call, long got, long want, int... args) {
        calls++;
        told.append(" ").append(call).append("(");
        for (int i = 0; i < args.length; i++) {
            told.append(i == 0 ? "" : ", ").append(args[i]);
        }
        told.append(")");
        return new long[] {got, want};
    }

    private long[] ofTheWorld() {
        int s = upTo(15);
        int d = upTo(7);
        int k;
        switch (random.nextInt(8)) {
            case 0: k = upTo(4); return says("set", x.set(k), y.set(k), k);
            case 1: k = upTo(4) - 1; return says("lot", x.lot(s, d, k), y.lot(s, d, k), s, d, k);
            case 2: return says("let", x.let(s), y.let(s), s);
            case 3: return says("doom", x.doom(s), y.doom(s), s);
            case 4: k = upTo(1); return says("sure", x.sure(s, 1, k), y.sure(s, 1, k), s, 1, k);
            case 5: k = upTo(1); return says("sure", x.sure(s, 2, k), y.sure(s, 2, k), s, 2, k);
            case 6: k = upTo(3); return says("sure", x.sure(s, k, 0), y.sure(s, k, 0), s, k, 0);
            default: return says("instead", x.instead(s, d), y.instead(s, d), s, d);
        }
    }

    private long[] ofLeaves() {
        int machine = some(3);
        int leave = some(4);
        int doings = random.nextInt(3) == 0 ? 255 : upTo(255);
        int uses = random.nextBoolean() ? upTo(20) : 1 + random.nextInt(20);
        int till = temper == 0 ? upTo(100) : 60 + upTo(40);
        switch (random.nextInt(temper == 3 ? 16 : 8)) {
            case 0:
            case 1:
                int master = y.count(3) > 0 && random.nextInt(3) > 0 ? y.about(0, 1) : some(2);
                return says("give", x.give(master, machine, doings, uses, till),
                        y.give(master, machine, doings, uses, till), master, machine, doings, uses, till);
            case 2:
            case 3:
                doings = y.leave(leave, 1) & doings;
                uses = random.nextBoolean() ? uses : Math.max(1, y.leave(leave, 2) - random.nextInt(2));
                till = random.nextInt(4) == 0 ? till : y.leave(leave, 3) - random.nextInt(2);
                return says("lend", x.lend(leave, machine, doings, uses, till),
                        y.lend(leave, machine, doings, uses, till), leave, machine, doings, uses, till);
            case 4:
                return says("lend", x.lend(leave, machine, doings, uses, till),
                        y.lend(leave, machine, doings, uses, till), leave, machine, doings, uses, till);
            case 5:
                if (random.nextInt(4) > 0) {
                    return says("count", x.count(8), y.count(8), 8);
                }
                return says("withdraw", x.withdraw(leave), y.withdraw(leave), leave);
            default:
                int what = upTo(7);
                return says("leave", x.leave(leave, what), y.leave(leave, what), leave, what);
        }
    }

    private long[] ofMasters() {
        int master = some(2);
        int machine = some(3);
        int v = random.nextInt(3) == 0 ? upTo(1000) : upTo(150);
        switch (random.nextInt(10)) {
            case 0: return says("master", x.master(master, v), y.master(master, v), master, v);
            case 1:
                v = temper == 2 ? upTo(1000) : v;
                return says("limit", x.limit(master, v), y.limit(master, v), master, v);
            case 2:
            case 3: v = upTo(15); return says("machine", x.machine(master, v), y.machine(master, v), master, v);
            case 4: v = upTo(2); return says("budget", x.budget(master, v), y.budget(master, v), master, v);
            case 5: v = upTo(3); return says("about", x.about(machine, v), y.about(machine, v), machine, v);
            case 6: return says("yes", x.yes(machine), y.yes(machine), machine);
            case 7:
                int d = upTo(7);
                v = temper == 3 ? upTo(3) : upTo(20);
                return says("doing", x.doing(d, 0, v), y.doing(d, 0, v), d, 0, v);
            case 8:
                int e = upTo(7);
                v = random.nextInt(3) == 0 ? upTo(1) : upTo(5);
                int what = v == 4 ? 1 : upTo(1);
                return says("doing", x.doing(e, what, v), y.doing(e, what, v), e, what, v);
            default:
                int kind = upTo(5);
                int f = upTo(7);
                return says("due", x.due(kind, f), y.due(kind, f), kind, f);
        }
    }

    private long[] watching() {
        int machine = some(3);
        int master = some(2);
        int v;
        switch (random.nextInt(9)) {
            case 0: v = upTo(3); return says("round", x.round(v), y.round(v), v);
            case 1:
            case 2:
                int d = upTo(7);
                v = upTo(1);
                return says("odd", x.odd(machine, d, v), y.odd(machine, d, v), machine, d, v);
            case 3:
                v = random.nextInt(4) == 0 ? upTo(0) : random.nextInt(1 << 16) & random.nextInt(1 << 16);
                return says("wish", x.wish(master, v), y.wish(master, v), master, v);
            case 4: v = upTo(15); return says("wished", x.wished(v), y.wished(v), v);
            case 5: return says("quarrel", x.quarrel(), y.quarrel());
            case 6: return says("beside", x.beside(machine), y.beside(machine), machine);
            case 7: v = upTo(8); return says("count", x.count(v), y.count(v), v);
            default: return says("trace", x.trace(), y.trace());
        }
    }

    private long[] lines() {
        int line = random.nextInt(3) == 0 ? y.count(5) - 1 : some(5);
        int machine = some(3);
        int v;
        switch (random.nextInt(5)) {
            case 0:
            case 1: v = upTo(8); return says("line", x.line(line, v), y.line(line, v), line, v);
            case 2: v = upTo(4) - 1; return says("led", x.led(line, v), y.led(line, v), line, v);
            case 3: return says("beside", x.beside(machine), y.beside(machine), machine);
            default: return says("undo", x.undo(machine), y.undo(machine), machine);
        }
    }

    private long[] act(int[] answers) {
        int machine = some(3);
        int d = upTo(7);
        int lot = random.nextInt(3) == 0 ? upTo(3) : upTo(1);
        int guard = upTo(1);
        if (random.nextInt(3) > 0 && y.count(3) > 0) {
            for (int i = 0; i < 8 && y.lot(y.about(0, 0), d, -1) < 1; i++) {
                machine = 0;
                d = (Math.max(0, d % 8) + 1) % 8;
            }
        }
        int got = x.act(machine, d, lot, guard);
        answers[got >= 0 ? 0 : got <= -11 && got >= -15 ? -10 - got : 0]++;
        return says("act", got, y.act(machine, d, lot, guard), machine, d, lot, guard);
    }

    private long[] seldom() {
        int image = upTo(1);
        switch (random.nextInt(temper == 1 ? 6 : 12)) {
            case 0: return says("keep", x.keep(image), y.keep(image), image);
            case 1: return says("back", x.back(image), y.back(image), image);
            case 2: int n = upTo(50); return says("wait", x.wait(n), y.wait(n), n);
            case 3: int m = upTo(4); return says("wait", x.wait(m), y.wait(m), m);
            case 4: int k = upTo(9); return says("type", x.type(0x2020202020202020L, k),
                    y.type(0x2020202020202020L, k), k);
            case 5: return says("clear", x.clear(), y.clear());
            default: int w = upTo(8); return says("count", x.count(w), y.count(w), w);
        }
    }
}
