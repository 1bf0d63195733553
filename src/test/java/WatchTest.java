/** Promises 28 to 37: what goes round bars, odd ways, wishes, what would have been, images, counts. */
public final class WatchTest {
    public static void main(String[] args) {
        rounds();
        roundsInOrder();
        odd();
        oddAll();
        wishes();
        wishedByParts();
        quarrels();
        beside();
        images();
        imagesAndWishes();
        counts();
        traces();
        Check.finish();
    }

    private static void round(ReinHall x, int rows, int bar, int doings, int first) {
        Check.due("round(0)", x.round(0), rows);
        Check.due("round(1)", x.round(1), bar);
        Check.due("round(2)", x.round(2), doings);
        Check.due("round(3)", x.round(3), first);
    }

    private static void rounds() {
        int none = ReinHall.NONE;
        round(Check.of("0 a>1;1 a>2;"), 0, none, none, none);
        round(Check.of("0 a>1;bar 0>1;"), 0, none, none, none);
        round(Check.of("0 a>1;1 b>2;bar 0>2;"), 1, 0, 2, 8);
        round(Check.of("0 h>1;1 g>2;2 f>3;bar 5>6;bar 0>3;"), 1, 1, 3, 7 + 8 * 6 + 64 * 5);
        // by some lots: 1 or 2, then 3 or 4
        round(Check.of("0 b>1 2;1 a>5;2 a>3 4;bar 0>4;bar 0>4;"), 2, 0, 2, 1);
        // a row told once, though by two ways
        round(Check.of("0 b>1 2;1 a>4;2 a>4;bar 0>4;"), 1, 0, 2, 1);
        // from a state to itself, all of a and b
        round(Check.of("0 a>0;0 b>0;bar 0>0;"), 4 + 8, 0, 2, 0);
        // a later lot of a later doing
        round(Check.of("3 a>4 5;4 c>6;5 c>7;6 d>9;7 d>8;bar 3>7;bar 3>8;"), 2, 0, 2, 16);
        ReinHall x = Check.of("0 a>1;1 b>2;bar 0>2;never 1;");
        round(x, 1, 0, 2, 8);
        Check.due("round(-1)", x.round(-1), ReinHall.BAD);
        Check.due("round(4)", x.round(4), ReinHall.BAD);
        Check.due("an empty world", x.world(), 0);
        round(x, 0, none, none, none);
    }

    private static void roundsInOrder() {
        // the bar goes ahead of the shorter row
        round(Check.of("0 a>1;1 a>2;2 a>3;0 b>4;4 a>5;bar 0>3;bar 0>5;"), 2, 0, 3, 0);
        // the shorter ahead of doings
        round(Check.of("0 a>1;1 a>2;2 a>3;0 h>4;4 h>3;bar 0>3;"), 2, 0, 2, 63);
        // the first doing ahead of the second
        round(Check.of("0 a>1;1 h>3;0 b>1;1 c>3;bar 0>3;"), 4, 0, 2, 16);
        // and the second ahead of the third
        round(Check.of("0 a>1;1 b>2;1 c>4;2 h>3;4 a>3;bar 0>3;"), 2, 0, 3, 8 + 64 * 7);
        StringBuilder all = new StringBuilder();
        for (int i = 0; i < 8; i++) {
            all.append("0 ").append((char) ('a' + i)).append(">0;");
        }
        for (int i = 0; i < 10; i++) {
            all.append("bar 0>0;");
        }
        round(Check.of(all.toString()), 10 * (64 + 512), 0, 2, 0);
    }

    private static ReinHall twoMachines() {
        ReinHall x = Check.of("0 a>0;0 b>0;0 c>9;never 9;");
        x.doing(0, 0, 0);
        x.doing(1, 0, 0);
        x.machine(0, 0);
        x.machine(0, 0);
        for (int i = 0; i < 4; i++) {
            x.give(0, i % 2, 255, 20, 100);
        }
        return x;
    }

    private static void odd() {
        ReinHall x = twoMachines();
        Check.due("no lines", x.odd(0, 0, 0), 1);
        Check.due("no lines, all", x.odd(0, 0, 1), 1);
        x.act(0, 0, 0, 0);
        x.act(0, 0, 0, 0);
        x.act(0, 1, 0, 0);
        x.act(1, 0, 0, 0);
        x.act(1, 1, 0, 0);
        x.act(1, 1, 0, 0);
        // 3 of 6 are dealt to it, 3 of the 6 have a, 2 of its own do
        Check.due("ways", x.odd(0, 0, 0), 9 + 1);
        Check.due("all ways", x.odd(0, 0, 1), 20);
        Check.due("of the other", x.odd(1, 0, 0), 9 + 9 + 1);
        Check.due("of what none does", x.odd(0, 7, 0), 20);
        Check.due("doing done, not told", x.act(0, 2, 0, 1), 0);
        Check.due("ways", x.odd(0, 2, 0), 35);
        Check.due("ways", x.odd(0, 0, 0), 4 * 3 + 1);
        x.doing(0, 1, 4);
        x.undo(0);
        Check.due("undone ones are lines, too", x.odd(0, 0, 1), 35);
        Check.due("machine 2", x.odd(2, 0, 0), -1);
        Check.due("machine -1", x.odd(-1, 0, 0), -1);
        Check.due("doing 8", x.odd(0, 8, 0), -1);
        Check.due("doing -1", x.odd(0, -1, 0), -1);
        Check.due("what 2", x.odd(0, 0, 2), -1);
        Check.due("what -1", x.odd(0, 0, -1), -1);
    }

    private static void oddAll() {
        ReinHall x = twoMachines();
        for (int i = 0; i < 30; i++) {
            Check.due("act", x.act(i % 2, i % 4 < 2 ? 0 : 1, 0, 0), i % 4 < 2 ? 0 : 1);
        }
        Check.due("all of 30", x.odd(0, 0, 1), 155117520L);
        long ways = 0;
        long[] c = new long[17];
        long[] d = new long[15];
        fill(c, 16);
        fill(d, 14);
        for (int k = 8; k <= 15; k++) {
            ways += c[k] * d[15 - k];
        }
        Check.due("ways of 30", x.odd(0, 0, 0), ways);
        x.act(0, 0, 0, 0);
        Check.due("31 lines", x.odd(0, 0, 0), -2);
        Check.due("31 lines", x.odd(0, 0, 1), -2);
        Check.due("BAD goes ahead", x.odd(0, 8, 1), -1);
    }

    private static void fill(long[] row, int n) {
        row[0] = 1;
        for (int i = 1; i <= n; i++) {
            row[i] = row[i - 1] * (n - i + 1) / i;
        }
    }

    private static void wishes() {
        ReinHall x = new ReinHall();
        Check.due("none at first", x.wish(0, 65535), 0);
        Check.due("what it was", x.wish(0, 0), 65535);
        Check.due("states 65536", x.wish(0, 65536), ReinHall.BAD);
        Check.due("states -1", x.wish(0, -1), ReinHall.BAD);
        Check.due("master 1", x.wish(1, 1), ReinHall.BAD);
        Check.due("master -1", x.wish(-1, 1), ReinHall.BAD);
        Check.due("master 8", x.wish(8, 1), ReinHall.BAD);
        x.master(0, 1);
        Check.due("a new one's", x.wish(1, 5), 0);
        Check.due("it stays", x.wish(1, 5), 5);
        Check.due("the other's", x.wish(0, 1), 0);
    }

    private static void wishedByParts() {
        ReinHall x = Check.of("0 b>1 2;0 c>3;0 d>1 3 4;0 e>4 3 5 1;0 f>9;1 a>1;2 a>2;3 a>3;4 a>4;5 a>5;never 9;"
                + "rest 6;");
        Check.due("no wishes: the least", x.wished(0), 1);
        x.wish(0, 1 << 1 | 1 << 4);
        Check.due("two of three", x.wished(0), 3);
        x.wish(0, 1 << 1 | 1 << 4 | 1 << 5);
        Check.due("three of four", x.wished(0), 4);
        x.wish(0, 1 << 3);
        Check.due("one of one", x.wished(0), 2);
        x.wish(0, 1 << 9);
        Check.due("what is not let is left out", x.wished(0), 1);
        x.wish(0, 1 << 1 | 1 << 3);
        Check.due("one of one ahead of two of three", x.wished(0), 2);
        x.master(0, 1);
        x.master(0, 1);
        x.wish(0, 1 << 4);
        x.wish(1, 1 << 1);
        Check.due("0 goes ahead of 1", x.wished(0), 3);
        x.wish(0, 0);
        Check.due("1, where 0 has none", x.wished(0), 1);
        x.wish(1, 0);
        x.wish(2, 1 << 5);
        Check.due("2, where 1 has none", x.wished(0), 4);
        Check.due("the first doing of all", x.wished(1), 0);
        Check.due("nothing is let", x.wished(6), ReinHall.NONE);
        Check.due("not safe", x.wished(9), ReinHall.NONE);
        Check.due("state -1", x.wished(-1), ReinHall.BAD);
        Check.due("state 16", x.wished(16), ReinHall.BAD);
    }

    private static void quarrels() {
        ReinHall x = new ReinHall();
        for (int i = 0; i < 7; i++) {
            x.master(0, 1);
        }
        Check.due("nobody wishes", x.quarrel(), ReinHall.NONE);
        x.wish(7, 1);
        Check.due("one wishes", x.quarrel(), ReinHall.NONE);
        x.wish(6, 3);
        Check.due("they share one", x.quarrel(), ReinHall.NONE);
        x.wish(6, 2);
        Check.due("they share none", x.quarrel(), 8 * 6 + 7);
        x.wish(2, 1);
        Check.due("the first pair", x.quarrel(), 8 * 2 + 6);
        x.wish(0, 2);
        Check.due("the first pair", x.quarrel(), 2);
    }

    private static void beside() {
        ReinHall x = Check.of("0 a>5 9;0 b>1 2;5 a>6;1 c>0;6 c>7 8;never 9;7 a>7;2 a>2;8 b>8;");
        Check.due("no machine", x.beside(0), ReinHall.BAD);
        x.machine(0, 0);
        x.machine(0, 3);
        x.give(0, 0, 255, 20, 100);
        x.doing(1, 1, 4);
        Check.due("where it began", x.beside(1), 3);
        Check.due("b instead of a", x.act(0, 0, 0, 1), 1);
        Check.due("beside: a, the first lot", x.beside(0), 5);
        Check.due("undo", x.undo(0), 0);
        Check.due("undone ones not", x.beside(0), 0);
        Check.due("again", x.act(0, 0, 0, 1), 1);
        Check.due("c", x.act(0, 2, 0, 0), 2);
        Check.due("no way there: it stays", x.beside(0), 5);
        Check.due("b, lot 1", x.act(0, 0, 1, 1), 1);
        Check.due("a, the last lot", x.beside(0), 6);
        Check.due("the machine itself", x.about(0, 0), 2);
        Check.due("another", x.beside(1), 3);
        Check.due("machine 2", x.beside(2), ReinHall.BAD);
        Check.due("machine -1", x.beside(-1), ReinHall.BAD);
        Check.types(x, "0 a>4 9;4 a>3 12;");
        Check.due("another world", x.world(), 2);
        Check.due("by the world that is now", x.beside(0), 12);
    }

    private static void images() {
        ReinHall x = Check.of("0 a>1;1 a>0;");
        Check.due("keep(-1)", x.keep(-1), ReinHall.BAD);
        Check.due("keep(2)", x.keep(2), ReinHall.BAD);
        Check.due("back(-1)", x.back(-1), ReinHall.BAD);
        Check.due("back(2)", x.back(2), ReinHall.BAD);
        Check.due("none was kept", x.back(0), ReinHall.STATE);
        Check.due("keep", x.keep(1), 0);
        Check.due("the other was not", x.back(0), ReinHall.STATE);
        x.master(0, 50);
        x.machine(1, 0);
        x.give(0, 0, 1, 5, 50);
        x.yes(0);
        x.act(0, 0, 0, 0);
        x.wait(7);
        Check.due("keep", x.keep(0), 8);
        x.master(1, 60);
        x.limit(1, 40);
        x.machine(1, 0);
        x.lend(0, 1, 1, 2, 20);
        x.yes(0);
        x.yes(1);
        x.act(0, 0, 0, 0);
        x.act(1, 0, 0, 0);
        x.withdraw(0);
        x.doing(0, 0, 9);
        x.doing(0, 1, 4);
        x.undo(0);
        Check.types(x, "0 a>2;");
        x.world();
        Check.types(x, "zz");
        x.due(0, 0);
        Check.due("back", x.back(0), 8);
        Check.due("masters", x.count(2), 2);
        Check.due("limit", x.budget(1, 1), 50);
        Check.due("spent", x.budget(0, 2), 1);
        Check.due("machines", x.count(3), 1);
        Check.due("state", x.about(0, 0), 1);
        Check.due("yes", x.about(0, 2), 1);
        Check.due("lines of it", x.about(0, 3), 1);
        Check.due("leaves", x.count(4), 1);
        Check.due("uses", x.leave(0, 2), 4);
        Check.due("withdrawn", x.leave(0, 7), 0);
        Check.due("lines", x.count(5), 1);
        Check.due("not undone", x.line(0, 8), 0);
        Check.due("tick", x.count(6), 8);
        Check.due("the world is as it was told last", x.lot(0, 0, 0), 2);
        Check.due("the text stays", x.count(7), 2);
        Check.due("the price stays", x.doing(0, 0, 9), 9);
        Check.due("the kind stays", x.doing(0, 1, 4), 4);
        Check.due("the trace stays", x.trace(), 1);
        Check.due("a new machine has nothing of the old", x.machine(0, 3), 1);
        Check.due("no yes", x.about(1, 2), 0);
        Check.due("no lines", x.about(1, 3), 0);
        Check.due("back again", x.back(0), 8);
        Check.due("machines", x.count(3), 1);
        Check.due("the first of all", x.back(1), 0);
        Check.due("masters", x.count(2), 1);
        Check.due("machines", x.count(3), 0);
        Check.due("lines", x.count(5), 0);
        Check.due("keep again", x.keep(0), 0);
        Check.due("it is kept anew", x.back(0), 0);
        Check.due("machines", x.count(3), 0);
    }

    private static void imagesAndWishes() {
        ReinHall x = new ReinHall();
        x.keep(0);
        x.wish(0, 1);
        x.master(0, 1);
        x.wish(1, 2);
        x.keep(1);
        Check.due("quarrel", x.quarrel(), 1);
        x.back(0);
        Check.due("wishes stay", x.wish(0, 4), 1);
        Check.due("one who is not there has none", x.quarrel(), ReinHall.NONE);
        Check.due("nor can wish", x.wish(1, 2), ReinHall.BAD);
        x.back(1);
        Check.due("wishes stay, though not there for a while", x.wish(1, 2), 2);
        x.back(0);
        Check.due("a new master", x.master(0, 1), 1);
        Check.due("has no wishes at first", x.wish(1, 8), 0);
    }

    private static void counts() {
        ReinHall x = Check.of("0 a>0;0 b>0;bar 1>2;bar 2>3;bar 1>2;");
        x.master(0, 5);
        x.master(0, 5);
        x.machine(0, 0);
        x.give(0, 0, 1, 1, 9);
        x.give(0, 0, 2, 9, 9);
        x.give(0, 0, 3, 9, 9);
        x.give(0, 0, 3, 9, 0);
        x.act(0, 0, 0, 0);
        x.act(0, 1, 0, 0);
        x.wait(3);
        Check.types(x, "abcd");
        int[] want = {2, 3, 3, 1, 4, 2, 5, 4, 2};
        for (int i = 0; i < want.length; i++) {
            Check.due("count(" + i + ")", x.count(i), want[i]);
        }
        Check.due("count(-1)", x.count(-1), ReinHall.BAD);
        Check.due("count(9)", x.count(9), ReinHall.BAD);
    }

    private static void traces() {
        long[] marks = {1, 11, 101, 1101, 10001, 100001};
        for (int kind = 0; kind < 6; kind++) {
            ReinHall x = new ReinHall();
            x.due(kind, 3);
            Check.due("trace of kind " + kind, x.trace(), marks[kind]);
            x.due(kind, 5);
            Check.due("trace of kind " + kind + " twice", x.trace(), 2 * marks[kind]);
        }
        ReinHall x = twoMachines();
        x.act(0, 0, 0, 0);
        Check.due("only due() comes to it", x.trace(), 0);
    }
}
