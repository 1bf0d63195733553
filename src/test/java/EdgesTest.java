import java.util.Arrays;

/**
 * The edges that the document names, promise by promise, where they are not refusals: the least, the
 * most, the empty and the full.
 */
public final class EdgesTest {
    private static final int NONE = ReinHall.NONE;
    private static final String CHAIN = "0a>1;1a>2;2a>3;3a>4;4a>5;5a>6;6a>7;7a>8;8a>9;9a>10;10a>11;11a>12;12a>13;"
            + "13a>14;14a>15;";

    public static void main(String[] args) {
        objectsOfTheirOwn();
        callsOfOneObject();
        brokenAndSafe();
        worldsAfterWorlds();
        leastAndGreatestState();
        longestDoom();
        doomsOfLots();
        longestSure();
        sureOrNot();
        pricesNear();
        insteadWithoutLet();
        dues();
        pricesAndKinds();
        leastAndMostGiven();
        marks();
        fullWorld();
        fullBook();
        longestLoan();
        usesAndTicks();
        eightMasters();
        mastersBeside();
        limitsToTheTop();
        undone();
        sixtiethLine();
        lotsOfAct();
        rounds();
        odds();
        wishes();
        quarrels();
        beside();
        imagesOfAll();
        Check.finish();
    }

    private static void told(String world, String line, long want) {
        Check.answers("told " + world + "\n", line, want);
    }

    private static void objectsOfTheirOwn() {
        Hall first = Hall.of(Scenes.FULL);
        Hall second = new Hall();
        for (int what = 0; what <= 8; what++) {
            Check.due("count(" + what + ")", second.says("count", what), what == 2 ? 1 : 0);
        }
        Check.due("count(0) of the first", first.says("count", 0), 60);
        Check.due("trace of a second", second.says("trace"), 0);
        Check.due("price of a second", second.says("doing", 0, 0, 9), 1);
        Check.due("price of the first", first.says("doing", 0, 0, 9), 1);
    }

    private static void callsOfOneObject() {
        Hall x = Hall.of("510* due 4 7\n");
        Check.due("call 511", x.says("due", 4, 7), 3);
        Check.due("call 512", x.says("trace"), 511L * 10001);
        Hall y = Hall.of(Scenes.MIDDLE);
        long[] before = Watch.after(Hall.calls(Scenes.MIDDLE));
        long[] again = Watch.after(Hall.calls(Scenes.MIDDLE));
        Check.holds("the same calls give the same answers", Arrays.equals(before, again));
        Check.due("count(8) of it", y.says("count", 8), 4);
    }

    private static void brokenAndSafe() {
        told("", "set 3", 65535);
        told("", "set 4", 0);
        told("rest 0 1 2 3 4 5 6 7 8 9 10 11 12 13 14 15;", "set 3", 0);
        told("rest 0 1 2 3 4 5 6 7 8 9 10 11 12 13 14 15;", "set 4", 65535);
        String never = "never 0 1 2 3 4 5 6 7 8 9 10 11 12 13 14 15;";
        told(never + "rest 0 15;0 a>0;", "set 3", 65535);
        told(never + "rest 0 15;0 a>0;", "set 4", 0);
        told(never + "rest 0 15;0 a>0;", "let 0", 0);
        told(never + "rest 0 15;0 a>0;", "doom 0", 0);
        told(CHAIN + "15a>0;", "set 4", 65535);
        told(CHAIN + "15a>0;never 8;", "set 4", 0);
        told(CHAIN + "15a>0;never 8;rest 7;", "set 4", 65535 & ~(1 << 8));
        told(CHAIN + "rest 15;", "set 4", 65535);
        told(CHAIN, "set 4", 0);
        told(CHAIN, "set 3", 1 << 15);
        told(CHAIN + "7 h>7;", "set 4", 255);
        // each set by itself is safe, and so are both: the greatest is told
        told("0 a>1;1 a>0;15 h>15;", "set 4", 1 << 15 | 3);
        // one lot in four that is not safe bars the way; of two ways one is enough
        told("0 a>0 1 2 3;1 a>1;2 a>2;", "set 4", 6);
        told("0 a>0 1 2 3;0 h>0 1 2;1 a>1;2 a>2;", "set 4", 7);
        told("0 a>0 1 2 3;0 h>0 1 2;1 a>1;2 a>2;", "let 0", 128);
        told(Scenes.ways(60), "let 0", 255);
        told(Scenes.ways(60), "let 7", 15);
        told(Scenes.ways(60), "set 4", 255);
        told(Scenes.ways(60) + "never 0;", "set 4", 0);
    }

    /** What an earlier world told is gone, and nothing of it comes back with a third or a fourth. */
    private static void worldsAfterWorlds() {
        String last = "15a>1;15h>2;14h>3;0a>4;1a>2;2a>2;bar 15>2;goal 15;never 14;rest 0 15;";
        String other = "3c>4;4c>5;5c>5;bar 3>5;";
        String third = "told " + last + "\ntold " + other + "\ntold " + other + "\n";
        for (int s = 0; s < 16; s++) {
            for (int d = 0; d < 8; d++) {
                boolean is = d == 2 && s >= 3 && s <= 5;
                Check.answers(third, "lot " + s + " " + d + " -1", is ? 1 : 0);
            }
            Check.answers(third, "doom " + s, s >= 3 && s <= 5 ? NONE : 0);
            Check.answers(third, "let " + s, s >= 3 && s <= 5 ? 4 : 0);
            Check.answers(third, "sure " + s + " 1 0", NONE);
            Check.answers(third, "sure " + s + " 2 0", NONE);
        }
        for (int worlds = 1; worlds <= 4; worlds++) {
            Check.answers(worlds + "* told " + other + "\n", "round 0", 2);
            Check.answers(worlds + "* told " + other + "\n", "round 3", 18);
            Check.answers(worlds + "* told " + other + "\n", "count 0", 3);
            Check.answers(worlds + "* told " + other + "\n", "count 1", 1);
            Check.answers(worlds + "* told " + other + "\nworld\n", "round 0", 0);
            Check.answers(worlds + "* told " + other + "\nworld\n", "round 3", NONE);
        }
    }

    /** The least and the greatest state stand everywhere as the others do. */
    private static void leastAndGreatestState() {
        for (int a = 0; a <= 15; a += 15) {
            int b = 15 - a;
            told(a + "h>" + a + ";", "let " + a, 128);
            told(a + "h>" + a + ";", "wished " + a, 7);
            told(a + "h>" + a + ";", "instead " + a + " 0", 7);
            told(a + "h>" + b + ";" + b + "h>3;", "doom " + a, 2);
            told(a + "h>" + b + ";" + b + "h>3;", "doom " + b, 1);
            told(a + "h>3;goal 3;rest 3;", "sure " + a + " 1 0", 1);
            told(a + "h>3;goal 3;rest 3;", "sure " + a + " 2 1", 7);
            // a lot that takes longer bars the first doing, one that is not sure the other
            String sure = "7a>3 " + a + ";7b>3 " + b + ";7c>3;" + a + "a>5;5a>3;" + b + "a>" + b + ";3a>3;goal 3;";
            told(sure, "sure 7 1 0", 1);
            told(sure, "sure 7 1 1", 2);
            told(sure, "sure " + a + " 1 0", 2);
            told(sure, "sure " + b + " 1 0", NONE);
            // dooms: a has 2, 4 has 1, 9 has 0
            String doom = "4a>9;" + a + "a>4;7a>4;7b>" + a + ";7c>9;7d>" + a + " 4;never 7;";
            told(doom, "instead 7 0", 1);
            told(doom, "doom " + a, 2);
            told(b + "a>9;7a>" + b + ";7b>9;7c>" + b + " 9;never 7;", "instead 7 2", 0);
            // a is broken: of two ways it is the worse one, alone and beside a safe one
            told("4a>9;7a>" + a + ";7b>4;never 7 " + a + ";", "instead 7 0", 1);
            told("4a>9;8a>8;7a>8 " + a + ";7b>4 8;never 7 " + a + ";", "instead 7 0", 1);
            told(a + "a>1;1a>2;bar " + a + ">2;", "round 0", 1);
            told("1a>2;2a>" + a + ";bar 1>" + a + ";", "round 0", 1);
        }
    }

    private static void longestDoom() {
        for (int s = 0; s < 16; s++) {
            told(CHAIN, "doom " + s, 15 - s);
            told(CHAIN + "never 15;15a>15;", "doom " + s, 15 - s);
            told(CHAIN + "never 8;", "doom " + s, s <= 8 ? 8 - s : 15 - s);
            told(CHAIN + "rest 8;", "doom " + s, s <= 8 ? NONE : 15 - s);
            told(CHAIN + "15a>15;", "doom " + s, NONE);
        }
        told("", "doom 0", 0);
        told("", "doom 15", 0);
    }

    private static void doomsOfLots() {
        // dooms: 9 has 0, 1 has 1, 2 has 2; 8 is safe
        String world = "1a>9;2a>1;8a>8;";
        told(world + "0a>2 1;", "doom 0", 2);
        told(world + "0a>2 8;", "doom 0", 3);
        told(world + "0a>8 9;", "doom 0", 1);
        told(world + "0a>2 1 9 8;", "doom 0", 1);
        told(world + "0a>9;0b>1;0c>2;", "doom 0", 3);
        told(world + "0a>2;0b>1;0c>9;", "doom 0", 3);
        told(world + "0a>2;0b>1 0;0c>9 8;", "doom 0", 3);
        told(world + "0a>0;0b>9;", "doom 0", NONE);
        told(world + "0a>0 9;0b>0 1;", "doom 0", 2);
        told(world + "0a>0 2;", "doom 0", 3);
    }

    private static void longestSure() {
        for (int s = 0; s < 16; s++) {
            told(CHAIN + "15a>15;goal 15;", "sure " + s + " 1 0", 15 - s);
            told(CHAIN + "15a>15;goal 15;", "sure " + s + " 1 1", s == 15 ? NONE : 0);
            told(CHAIN + "rest 15;", "sure " + s + " 2 0", 15 - s);
            told(CHAIN + "15a>0;goal 0;", "sure " + s + " 1 0", s == 0 ? 0 : 16 - s);
            told(CHAIN + "15a>15;", "sure " + s + " 1 0", NONE);
            told(CHAIN + "goal 15;", "sure " + s + " 1 0", NONE);
            told(CHAIN + "goal 15;", "sure " + s + " 1 1", NONE);
        }
        String all = CHAIN + "15a>0;goal 0 1 2 3 4 5 6 7 8 9 10 11 12 13 14 15;";
        told(all, "sure 0 1 0", 0);
        told(all, "sure 15 1 1", NONE);
        told(all, "sure 0 2 0", NONE);
    }

    private static void sureOrNot() {
        String world = "1a>2;2a>2;3a>2;3b>3;goal 2;";
        told(world + "0a>1 2;", "sure 0 1 0", 2);
        told(world + "0a>2;0b>1;", "sure 0 1 1", 0);
        told(world + "0a>1;0b>2;", "sure 0 1 1", 1);
        told(world + "0a>1;0h>2;0g>2;", "sure 0 1 1", 6);
        told(world + "0a>1 2;0h>1;", "sure 0 1 1", 0);
        // it may never come
        told(world + "0a>0 2;", "sure 0 1 0", NONE);
        told(world + "0a>0 2;", "sure 0 1 1", NONE);
        told(world + "0a>0 2;0h>1;", "sure 0 1 1", 7);
        told(world + "0a>0 2;0h>1;", "sure 0 1 0", 2);
        // not let: a lot of it is not safe
        told(world + "0a>2 9;0b>1;", "sure 0 1 0", 2);
        told(world + "0a>2 9;0b>1;", "sure 0 1 1", 1);
        told(world + "0a>2 9;0b>0;", "sure 0 1 0", NONE);
        // in it: none, though a doing leads back to it
        told(world, "sure 2 1 0", 0);
        told(world, "sure 2 1 1", NONE);
        // of goal and of rest each its own
        told(world + "rest 3;", "sure 3 2 0", 0);
        told(world + "rest 3;", "sure 3 1 0", 1);
        told(world + "rest 3;", "sure 1 2 0", NONE);
        told(world + "rest 3;", "sure 1 2 1", NONE);
        told(world + "goal 9;", "sure 9 1 0", NONE);
        told(world + "rest 9;never 9;", "sure 9 2 0", NONE);
    }

    private static void pricesNear() {
        String script = "told 0a>9;0b>0;0c>0;0d>9;0h>0;never 9;\n";
        int[][] cases = {
            // prices of a, b, c, h: which is put in place of a
            {0, 20, 20, 20, 1}, {20, 0, 0, 0, 1}, {0, 20, 19, 20, 2}, {20, 0, 1, 0, 2}, {0, 1, 1, 0, 7},
            {10, 9, 11, 9, 1}, {10, 11, 9, 9, 1}, {10, 12, 9, 10, 7}, {10, 12, 9, 11, 2}, {20, 20, 20, 20, 1},
            {0, 0, 0, 0, 1}, {10, 0, 20, 20, 1}, {10, 20, 0, 19, 7}, {10, 0, 20, 1, 7}, {11, 0, 20, 1, 2},
        };
        for (int[] row : cases) {
            String prices = script + "doing 0 0 " + row[0] + "\ndoing 1 0 " + row[1] + "\ndoing 2 0 " + row[2]
                    + "\ndoing 7 0 " + row[3] + "\n";
            Check.answers(prices, "instead 0 0", row[4]);
            Check.answers(prices + "doing 3 0 " + row[0] + "\n", "instead 0 3", row[4]);
            Check.answers(prices + "doing 4 0 " + row[0] + "\n", "instead 0 4", row[4]);
            for (int let : new int[] {1, 2, 7}) {
                Check.answers(prices, "instead 0 " + let, let);
            }
        }
        // the price alone, not what its kind asks
        Check.answers(script + "doing 0 0 5\ndoing 1 0 4\ndoing 2 0 3\ndoing 1 1 5\n", "instead 0 0", 1);
    }

    private static void insteadWithoutLet() {
        // dooms: 9 has 0, 1 has 1, 2 has 2; 8 is safe
        String world = "1a>9;2a>1;8a>8;never 10 11;";
        told(world + "0a>9;0b>1;0c>2;", "instead 0 0", 2);
        told(world + "0a>9;0b>1;0c>2;", "instead 0 7", 2);
        told(world + "0a>2 9;0b>1;0c>1 2;", "instead 0 0", 1);
        told(world + "0c>9;0f>9;", "instead 0 5", 2);
        told(world + "10c>2;10d>8;10f>8;", "instead 10 2", 3);
        told(world + "10c>2;10d>8 9;10f>8 1;", "instead 10 3", 2);
        told(world + "10c>8;10d>2;", "instead 10 3", 2);
        told(world + "10h>10;", "instead 10 0", 7);
        told(world, "instead 10 0", NONE);
        told(world + "rest 10;10h>8;", "instead 10 7", NONE);
        told(world + "rest 7;", "instead 7 0", NONE);
        told(world + "rest 7;7h>9;", "instead 7 7", NONE);
        told(world + "rest 7;7h>9;7b>8;", "instead 7 7", 1);
        told(world, "instead 9 7", NONE);
        for (int d = 0; d < 8; d++) {
            told(Scenes.ways(60), "instead 0 " + d, d);
            told(Scenes.ways(60) + "never 0;", "instead 0 " + d, 0);
            told(Scenes.ways(60), "instead 15 " + d, NONE);
        }
    }

    private static final int[][] DUES = {
        {0, 0, 1, 1, 2, 0}, {1, 0, 2, 1, 3, 2}, {2, 0, 3, 2, 4, 4}, {3, 1, 4, 2, 5, 6}, {4, 1, 5, 3, 6, 8},
        {5, 1, 6, 3, 7, 10}, {6, 2, 7, 4, 8, 12}, {7, 2, 8, 4, 9, 14}, {8, 2, 9, 5, 10, 16},
        {9, 3, 10, 5, 11, 18}, {10, 3, 11, 6, 12, 20}, {11, 3, 12, 6, 13, 22}, {12, 4, 13, 7, 14, 24},
        {13, 4, 14, 7, 15, 26}, {14, 4, 15, 8, 16, 28}, {15, 5, 16, 8, 17, 30}, {16, 5, 17, 9, 18, 32},
        {17, 5, 18, 9, 19, 34}, {18, 6, 19, 10, 20, 36}, {19, 6, 20, 10, 21, 38}, {20, 6, 21, 11, 22, 40},
    };

    /** Every price by every kind: what due() tells, and what an act of that kind spends. */
    private static void dues() {
        for (int price = 0; price <= 20; price++) {
            for (int kind = 0; kind < 6; kind++) {
                int due = DUES[price][kind];
                String script = "told 0h>0;\nmachine 0 0\ngive 0 0 128 1 0\nyes 0\ndoing 7 0 " + price + "\n";
                Check.answers(script, "due " + kind + " 7", due);
                Check.answers(script + "doing 7 1 5\n", "due " + kind + " 7", due);
                String acted = script + "doing 7 1 " + kind + "\nact 0 7 0 0\n";
                Check.answers(acted, "budget 0 2", due);
                Check.answers(acted, "line 0 7", due);
                Check.answers(acted, "about 0 2", kind == 2 || kind == 3 ? 0 : 1);
                Check.answers(acted, "trace", 0);
            }
        }
    }

    /** Each price and kind of each doing, and no other's. */
    private static void pricesAndKinds() {
        for (int d = 0; d < 8; d++) {
            for (int v = 0; v <= 20; v++) {
                String script = "doing " + d + " 0 " + v + "\n" + (v <= 5 ? "doing " + d + " 1 " + v + "\n" : "");
                for (int e = 0; e < 8; e++) {
                    Check.answers(script, "doing " + e + " 0 7", e == d ? v : 1);
                    Check.answers(script, "doing " + e + " 1 5", e == d && v <= 5 ? v : 0);
                }
            }
        }
    }

    /** Leaves with the least and with the most that may be given and lent. */
    private static void leastAndMostGiven() {
        String script = "master 0 5\n3* machine 1 0\nmachine 0 0\n";
        for (int which = 0; which < 16; which++) {
            int machine = (which & 1) * 3;
            int doings = (which >> 1 & 1) * 255;
            int uses = 1 + (which >> 2 & 1) * 19;
            int till = (which >> 3 & 1) * 100;
            String numbers = " " + doings + " " + uses + " " + till + "\n";
            String given = script + "give 0 " + machine + numbers;
            long[] want = {machine, doings, uses, till, NONE, 0, 1, 0};
            long[] lent = {1, doings, uses, till, 0, 0, 1, 0};
            for (int what = 0; what < 8; what++) {
                Check.answers(given, "leave 0 " + what, want[what]);
                Check.answers(given + "lend 0 1" + numbers, "leave 1 " + what, lent[what]);
                Check.answers(given + "lend 0 1" + numbers, "leave 0 " + what, want[what]);
            }
        }
    }

    private static void marks() {
        long[] marks = {1, 11, 101, 1101, 10001, 100001};
        for (int kind = 0; kind < 6; kind++) {
            for (int times = 0; times <= 3; times++) {
                Check.answers(times + "* due " + kind + " 3\n", "trace", times * marks[kind]);
            }
            Check.answers("500* due " + kind + " 3\n", "trace", 500 * marks[kind]);
            Check.answers("due " + kind + " 8\ndue " + kind + " -1\n", "trace", 0);
            Check.answers("keep 0\ndue " + kind + " 0\nback 0\n", "trace", marks[kind]);
        }
        Check.answers("due 6 0\ndue -1 0\n", "trace", 0);
        Check.answers("due 0 0\ndue 1 1\ndue 2 2\ndue 3 3\ndue 4 4\ndue 5 5\n", "trace", 111216);
    }

    private static void fullWorld() {
        String full = "told " + Scenes.FULL_WORLD + "\n";
        Check.answers(full, "count 0", 60);
        Check.answers(full, "count 1", 10);
        Check.answers(full, "set 1", 2);
        Check.answers(full, "set 2", 4);
        for (int s = 0; s < 16; s++) {
            for (int d = 0; d < 8; d++) {
                Check.answers(full, "lot " + s + " " + d + " -1", s * 8 + d < 60 ? 1 : 0);
                Check.answers(full, "lot " + s + " " + d + " 0", s * 8 + d < 60 ? 0 : -1);
            }
        }
        StringBuilder lots = new StringBuilder();
        for (int w = 0; w < 40; w++) {
            lots.append(w / 8).append((char) ('a' + w % 8)).append(">0 ").append(1 + w % 9).append(" 15 12;");
        }
        for (int w = 0; w < 40; w++) {
            String lot = "lot " + w / 8 + " " + w % 8 + " ";
            told(lots.toString(), lot + "-1", 4);
            told(lots.toString(), lot + "0", 0);
            told(lots.toString(), lot + "1", 1 + w % 9);
            told(lots.toString(), lot + "2", 15);
            told(lots.toString(), lot + "3", 12);
            told(lots.toString(), lot + "4", -1);
        }
        Check.answers(full + "world\n", "count 0", 0);
        Check.answers(full + "world\n", "count 1", 0);
        Check.answers(full + "told 15h>15;\n", "lot 7 0 -1", 0);
        Check.answers(full + "told 15h>15;\n", "set 4", 1 << 15);
    }

    private static void fullBook() {
        int[] counts = {60, 10, 8, 4, 20, 60, 100, 600};
        for (int what = 0; what < counts.length; what++) {
            Check.answers(Scenes.FULL, "count " + what, counts[what]);
        }
        for (int master = 0; master < 8; master++) {
            Check.answers(Scenes.FULL, "budget " + master + " 0", master == 0 ? NONE : master - 1);
            Check.answers(Scenes.FULL, "budget " + master + " 1", master == 0 ? 1000 : 1001 - master);
            int spent = master == 7 ? 15 : master == 6 ? 30 : master == 0 ? 60 : 45;
            Check.answers(Scenes.FULL, "budget " + master + " 2", spent);
        }
        for (int machine = 0; machine < 4; machine++) {
            Check.answers(Scenes.FULL, "about " + machine + " 1", new int[] {7, 6, 5, 0}[machine]);
            Check.answers(Scenes.FULL, "about " + machine + " 2", machine == 2 ? 9 : 0);
            Check.answers(Scenes.FULL, "about " + machine + " 3", 15);
        }
        for (int line = 0; line < 60; line++) {
            Check.answers(Scenes.FULL, "line " + line + " 0", 40 + line);
            Check.answers(Scenes.FULL, "line " + line + " 1", line / 15);
            Check.answers(Scenes.FULL, "line " + line + " 6", line / 15);
            Check.answers(Scenes.FULL, "led " + line + " -1", 1);
        }
        for (int leave = 0; leave < 20; leave++) {
            Check.answers(Scenes.FULL, "leave " + leave + " 2", leave < 4 ? 5 : leave < 16 ? 20 : 19);
            Check.answers(Scenes.FULL, "leave " + leave + " 4", leave < 16 ? NONE : leave - 16);
            Check.answers(Scenes.FULL, "leave " + leave + " 6", 1);
        }
        Check.answers(Scenes.FULL, "count 8", 20);
        Check.answers(Scenes.FULL, "keep 1", 100);
        Check.answers(Scenes.FULL, "back 0", 55);
        Check.answers(Scenes.FULL, "back 1", 85);
        Check.answers(Scenes.FULL + "back 0\n", "count 5", 15);
        Check.answers(Scenes.FULL + "back 1\n", "count 5", 45);
        Check.answers(Scenes.FULL, "clear", 600);
        Check.answers(Scenes.FULL, "world", 2);
        Check.answers(Scenes.FULL + "world\n", "lot 13 6 1", 15);
    }

    /** Twenty leaves, each lent of the one ahead: one use of the last uses up one of each. */
    private static void longestLoan() {
        StringBuilder script = new StringBuilder("told 0a>0;\n3* machine 0 0\ngive 0 0 1 20 100\n");
        for (int i = 1; i < 20; i++) {
            script.append("lend ").append(i - 1).append(i == 19 ? " 2" : i % 2 == 1 ? " 1" : " 0").append(" 1 ")
                    .append(21 - i).append(" ").append(101 - i).append("\n");
        }
        String lent = script.toString();
        for (int leave = 0; leave < 20; leave++) {
            Check.answers(lent, "leave " + leave + " 5", 0);
            Check.answers(lent, "leave " + leave + " 2", leave == 0 ? 20 : 21 - leave);
            Check.answers(lent + "act 2 0 0 0\n", "leave " + leave + " 2", leave == 0 ? 19 : 20 - leave);
            Check.answers(lent + "act 2 0 0 0\n", "led 0 " + leave, 19 - leave);
            Check.answers(lent, "withdraw " + leave, 20 - leave);
            Check.answers(lent + "withdraw " + leave + "\n", "count 8", leave);
            Check.answers(lent + "withdraw " + leave + "\n", "act 2 0 0 0", -12);
            Check.answers(lent + "withdraw " + leave + "\n", "leave 19 7", 1);
        }
        Check.answers(lent + "act 2 0 0 0\n", "led 0 -1", 20);
        Check.answers(lent + "act 2 0 0 0\n", "led 0 20", -1);
        Check.answers(lent + "act 2 0 0 0\n", "act 2 0 0 0", 0);
        Check.answers(lent + "2* act 2 0 0 0\n", "act 2 0 0 0", -12);
        Check.answers(lent + "2* act 2 0 0 0\n", "count 8", 19);
        Check.answers(lent + "act 1 0 0 0\n", "line 0 6", 1);
        Check.answers(lent + "act 0 0 0 0\n", "line 0 6", 0);
        // the first of all is used up, and none of the twenty stands
        Check.answers(lent + "19* act 0 0 0 0\n", "count 8", 20);
        Check.answers(lent + "20* act 0 0 0 0\n", "leave 19 2", 2);
        Check.answers(lent + "20* act 0 0 0 0\n", "leave 19 6", 0);
        Check.answers(lent + "20* act 0 0 0 0\n", "act 2 0 0 0", -12);
        Check.answers(lent + "20* act 0 0 0 0\n", "count 8", 0);
        Check.answers(lent + "wait 50\nwait 32\n", "leave 19 6", 1);
        Check.answers(lent + "wait 50\nwait 33\n", "leave 19 6", 0);
        Check.answers(lent + "wait 50\nwait 33\n", "count 8", 19);
    }

    private static void usesAndTicks() {
        String one = "told 0a>0;\n2* machine 0 0\n";
        for (int uses = 1; uses <= 20; uses++) {
            String given = one + "give 0 0 1 " + uses + " 100\n";
            Check.answers(given + (uses - 1) + "* act 0 0 0 0\n", "act 0 0 0 0", 0);
            Check.answers(given + uses + "* act 0 0 0 0\n", "act 0 0 0 0", -12);
            Check.answers(given + uses + "* act 0 0 0 0\n", "leave 0 2", 0);
            Check.answers(given + uses + "* act 0 0 0 0\n", "leave 0 6", 0);
            Check.answers(given + uses + "* act 0 0 0 0\n", "leave 0 7", 0);
        }
        for (int till = 0; till <= 49; till++) {
            String given = one + "give 0 0 1 20 " + till + "\nlend 0 1 1 20 " + till + "\n";
            String at = till == 0 ? given : given + "wait " + till + "\n";
            for (int leave = 0; leave < 2; leave++) {
                Check.answers(at, "leave " + leave + " 6", 1);
                Check.answers(at + "wait 1\n", "leave " + leave + " 6", 0);
                Check.answers(at, "act " + leave + " 0 0 0", 0);
                Check.answers(at + "act " + leave + " 0 0 0\n", "act " + leave + " 0 0 0", -12);
            }
            Check.answers(at, "count 8", 2);
            Check.answers(at + "wait 1\n", "count 8", 0);
        }
        Check.answers(one + "give 0 0 1 20 100\nwait 50\nwait 50\n", "leave 0 6", 1);
        Check.answers(one + "give 0 0 1 20 100\nwait 50\nwait 50\nact 0 0 0 0\n", "leave 0 6", 0);
        Check.answers(one + "give 0 0 1 20 100\nwait 50\nwait 50\nact 0 0 0 0\n", "keep 0", 101);
        // acts go on far beyond 100, if an image brings back what stood; none does: till is 100 at most
        Check.answers(one + "give 0 0 1 20 100\nwait 50\nwait 50\nact 0 0 0 0\n", "act 0 0 0 0", -12);
        for (int i = 0; i < 8; i++) {
            Check.answers(one + "give 0 0 " + (1 << i) + " 1 0\n", "leave 0 1", 1 << i);
            Check.answers(one + "give 0 0 " + (1 << i) + " 1 0\n", "act 0 0 0 0", i == 0 ? 0 : -12);
        }
        Check.answers(one + "give 0 0 0 1 0\n", "leave 0 6", 1);
    }

    /** Eight masters, each under the one ahead: what a machine of the last spends, all spend. */
    private static void eightMasters() {
        StringBuilder script = new StringBuilder("told 0a>0;\n");
        for (int i = 0; i < 7; i++) {
            script.append("master ").append(i).append(" 50\n");
        }
        script.append("machine 7 0\ngive 0 0 1 20 100\n3* act 0 0 0 0\n");
        for (int master = 0; master < 8; master++) {
            Check.answers(script.toString(), "budget " + master + " 2", 3);
            Check.answers(script + "doing 0 1 4\nundo 0\n", "budget " + master + " 2", 2);
            Check.answers(script + "limit " + master + " 4\n", "act 0 0 0 0", 0);
            Check.refuses(script + "limit " + master + " 3\n", "act 0 0 0 0", -14);
            Check.answers(script.toString(), "give " + master + " 0 1 1 1", 1);
        }
    }

    /** Machines of a master with a greater number than one that is not above it. */
    private static void mastersBeside() {
        String script = "master 0 9\nmaster 0 9\nmaster 1 9\nmaster 2 9\nmaster 3 9\n";
        String[] above = {"0", "0 1", "0 2", "0 1 3", "0 2 4", "0 1 3 5"};
        for (int of = 0; of < 6; of++) {
            for (int by = 0; by < 6; by++) {
                long want = above[of].contains(String.valueOf(by)) ? 0 : ReinHall.STATE;
                Check.answers(script + "machine " + of + " 0\n", "give " + by + " 0 1 1 1", want);
            }
        }
    }

    private static void limitsToTheTop() {
        String script = "told 0a>0;\nmaster 0 1000\nmachine 1 0\n2* give 1 0 1 20 100\ndoing 0 0 20\ndoing 0 1 5\n";
        Check.answers(script + "24* act 0 0 0 0\n", "act 0 0 0 0", 0);
        Check.answers(script + "25* act 0 0 0 0\n", "budget 0 2", 1000);
        Check.answers(script + "25* act 0 0 0 0\n", "budget 1 2", 1000);
        Check.refuses(script + "25* act 0 0 0 0\n", "act 0 0 0 0", -14);
        Check.refuses(script + "25* act 0 0 0 0\n", "limit 0 999", ReinHall.STATE);
        Check.answers(script + "25* act 0 0 0 0\n", "limit 0 1000", 1000);
        Check.answers(script + "25* act 0 0 0 0\ndoing 0 0 0\n", "act 0 0 0 0", 0);
        for (int limit = 0; limit <= 1000; limit += 500) {
            Check.answers("master 0 " + limit + "\n", "budget 1 1", limit);
            Check.answers("limit 0 " + limit + "\n", "budget 0 1", limit);
            Check.answers("limit 0 " + limit + "\n", "limit 0 1", limit);
        }
    }

    private static void undone() {
        String script = "told 0a>1;1a>2;2a>0;0b>2;\nmaster 0 100\nmachine 1 0\nmachine 0 2\ngive 1 0 3 9 50\n"
                + "give 0 1 3 9 50\nyes 0\nyes 1\ndoing 0 0 6\ndoing 0 1 2\nact 1 0 0 0\nact 0 0 0 0\n"
                + "doing 0 1 4\ndoing 0 0 20\n";
        Check.answers(script, "budget 0 2", 14);
        Check.answers(script, "undo 0", 1);
        String back = script + "undo 0\n";
        Check.answers(back, "budget 1 2", 0);
        Check.answers(back, "budget 0 2", 7);
        Check.answers(back, "about 0 0", 0);
        Check.answers(back, "about 0 2", 0);
        Check.answers(back, "about 0 3", 1);
        Check.answers(back, "leave 0 2", 8);
        Check.answers(back, "count 6", 2);
        Check.answers(back, "count 5", 2);
        Check.answers(back, "line 1 8", 1);
        Check.answers(back, "line 1 7", 7);
        Check.answers(back, "line 0 8", 0);
        Check.answers(back + "undo 1\n", "budget 0 2", 0);
        Check.answers(back + "undo 1\n", "about 1 0", 2);
        // what was undone does not go away: the one ahead of it is not undone
        Check.answers(script + "act 0 0 0 0\nundo 0\n", "undo 0", ReinHall.STATE);
        // an image from ahead of it brings the line back as it was
        Check.answers(script + "keep 1\nundo 0\nback 1\n", "line 1 8", 0);
        Check.answers(script + "keep 1\nundo 0\nback 1\n", "undo 0", 1);
    }

    /** The sixtieth line is undone, and counts, as the others are and do. */
    private static void sixtiethLine() {
        String script = "told 0a>9 0;0b>0;0h>1;1a>1;9a>9;never 9;\n2* machine 0 0\n2* give 0 0 255 20 100\n"
                + "give 0 1 255 20 100\n";
        String lines = script + "40* act 0 1 0 0\n19* act 1 1 0 0\n";
        for (int machine = 0; machine < 2; machine++) {
            String more = machine == 0 ? script + "give 0 0 255 20 100\n40* act 0 1 0 0\n19* act 1 1 0 0\n" : lines;
            String all = more + "act " + machine + " 0 0 1\n";
            Check.answers(more, "act " + machine + " 0 0 1", 1);
            Check.answers(all, "beside " + machine, 9);
            Check.answers(all, "beside " + (1 - machine), 0);
            Check.answers(all, "about " + machine + " 3", machine == 0 ? 41 : 20);
            Check.answers(all + "doing 1 1 4\n", "undo " + machine, 59);
            Check.answers(all + "doing 1 1 4\n", "undo " + (1 - machine), machine == 0 ? 58 : 39);
            Check.answers(all + "doing 1 1 4\nundo " + machine + "\n", "beside " + machine, 0);
        }
    }

    private static void lotsOfAct() {
        String script = "told 0a>3;0b>3 2;0c>3 2 1;0d>3 2 1 0;3a>0;2a>0;1a>0;\nmachine 0 0\ngive 0 0 255 20 100\n";
        for (int d = 0; d < 4; d++) {
            for (int lot = 0; lot < 4; lot++) {
                String line = "act 0 " + d + " " + lot + " 0";
                Check.answers(script, line, lot <= d ? d : -11);
                Check.answers(script + line + "\n", "about 0 0", lot <= d ? 3 - lot : 0);
                Check.answers(script + line + "\n", "count 6", lot <= d ? 1 : 0);
                Check.answers(script + line + "\n", "line 0 5", lot <= d ? 3 - lot : -1);
            }
        }
    }

    private static void rounds() {
        told("", "round 0", 0);
        told("bar 0>0;", "round 0", 0);
        told("0h>1;1h>2;bar 0>2;", "round 3", 63);
        told("0h>1;1h>2;2h>3;bar 0>3;", "round 3", 511);
        told("0a>1;1a>2;2a>3;bar 0>3;", "round 3", 0);
        told("0a>1;1a>2;2a>3;3a>4;bar 0>4;", "round 0", 0);
        told("0a>1;bar 0>1;bar 0>0;", "round 0", 0);
        told("0a>1;1a>2;" + "bar 9>9;".repeat(9) + "bar 0>2;", "round 1", 9);
        told("0a>1;1a>2;" + "bar 0>2;".repeat(10), "round 0", 10);
        told("0a>1;1a>2;" + "bar 0>2;".repeat(10), "round 1", 0);
        told("0a>0;bar 0>0;", "round 0", 2);
        told("0a>0;bar 0>0;", "round 2", 2);
        told("0a>1 2 3 15;15h>7;bar 0>7;", "round 3", 56);
        told("0a>1 2;1b>3;2b>3;bar 0>3;", "round 0", 1);
        told("0a>1 2;1b>3;2b>4;bar 0>3;", "round 0", 1);
        told("0a>1 2;1b>3;2b>4;bar 0>4;", "round 0", 1);
        told("0a>1 2;1b>3;2c>4;3d>5;4d>5;bar 0>5;", "round 0", 2);
        told("0a>1 2 3;1b>4;2b>5;3b>6;4c>7;bar 0>7;", "round 3", 8 + 128);
        // states that are never do not stand in the way
        told("0a>1;1a>2;never 0 1 2;bar 0>2;", "round 0", 1);
    }

    private static void odds() {
        String script = "told 0a>0;0b>0;\n3* machine 0 0\ngive 0 0 3 20 100\ngive 0 1 3 20 100\n";
        Check.answers(script, "odd 0 0 0", 1);
        Check.answers(script, "odd 0 0 1", 1);
        Check.answers(script + "act 0 0 0 0\n", "odd 0 0 0", 1);
        Check.answers(script + "act 0 0 0 0\n", "odd 0 1 0", 1);
        Check.answers(script + "act 0 0 0 0\n", "odd 1 0 0", 1);
        Check.answers(script + "act 0 0 0 0\n", "odd 2 0 1", 1);
        String four = script + "act 0 0 0 0\nact 0 1 0 0\nact 1 1 0 0\nact 1 1 0 0\n";
        // one of four has a, and it is machine 0's: in half of the deals
        Check.answers(four, "odd 0 0 0", 3);
        Check.answers(four, "odd 0 0 1", 6);
        Check.answers(four, "odd 1 0 0", 6);
        Check.answers(four, "odd 0 1 0", 6);
        Check.answers(four, "odd 1 1 0", 3);
        Check.answers(four, "odd 2 0 0", 1);
        Check.answers(four, "odd 2 1 1", 1);
        Check.answers(four, "odd 0 7 0", 6);
    }

    private static void wishes() {
        String script = "told 0a>1;0b>2;0h>15;1a>1;2a>2;15a>15;\n7* master 0 1\n";
        Check.answers(script, "wished 0", 0);
        Check.answers(script, "wished 3", NONE);
        for (int m = 0; m < 8; m++) {
            Check.answers(script + "wish " + m + " 4\n", "wished 0", 1);
            Check.answers(script + "wish " + m + " 32768\n", "wished 0", 7);
            Check.answers(script + "wish " + m + " 65535\n", "wished 0", 0);
            Check.answers(script + "wish " + m + " 65535\n", "wish " + m + " 0", 65535);
            Check.answers(script + "wish " + m + " 1\n", "wish " + m + " 1", 1);
            for (int n = m + 1; n < 8; n++) {
                Check.answers(script + "wish " + n + " 4\nwish " + m + " 32768\n", "wished 0", 7);
                Check.answers(script + "wish " + n + " 4\nwish " + m + " 32772\n", "wished 0", 1);
                Check.answers(script + "wish " + m + " 4\nwish " + n + " 32768\n", "wished 0", 1);
                Check.answers(script + "wish " + m + " 2\nwish " + n + " 32772\n", "wished 0", 0);
            }
        }
        // parts: 1 of 2 is 2 of 4, and more than 1 of 3
        String parts = "told 0a>1 3 4;0b>1 3;0c>1 2 3 4;0d>3;1a>1;2a>2;3a>3;4a>4;\n";
        Check.answers(parts + "wish 0 6\n", "wished 0", 1);
        Check.answers(parts + "wish 0 22\n", "wished 0", 2);
        Check.answers(parts + "wish 0 8\n", "wished 0", 3);
        Check.answers(parts + "wish 0 0\n", "wished 0", 0);
        Check.answers(parts + "wish 0 30\n", "wished 0", 0);
        Check.answers(parts + "wish 0 65504\n", "wished 0", 0);
    }

    private static void quarrels() {
        String script = "7* master 0 1\n";
        Check.answers(script, "quarrel", NONE);
        for (int a = 0; a < 8; a++) {
            Check.answers(script + "wish " + a + " 1\n", "quarrel", NONE);
            for (int b = a + 1; b < 8; b++) {
                String pair = script + "wish " + a + " 1\nwish " + b + " ";
                Check.answers(pair + "32768\n", "quarrel", 8 * a + b);
                Check.answers(pair + "65534\n", "quarrel", 8 * a + b);
                Check.answers(pair + "65535\n", "quarrel", NONE);
                Check.answers(pair + "1\n", "quarrel", NONE);
                Check.answers(pair + "0\n", "quarrel", NONE);
            }
        }
        Check.answers("wish 0 1\n", "quarrel", NONE);
    }

    private static void beside() {
        String script = "told 0a>9 1 2;0b>3 4 5 6;3a>7;1a>8;2a>8;9a>9;7a>7;8a>8;10a>10;never 9;rest 4 5 6;\n"
                + "machine 0 0\nmachine 0 15\ngive 0 0 255 20 100\n";
        Check.answers(script, "beside 0", 0);
        Check.answers(script, "beside 1", 15);
        for (int lot = 0; lot < 4; lot++) {
            Check.answers(script, "act 0 0 " + lot + " 1", 1);
            int there = new int[] {9, 1, 2, 2}[lot];
            Check.answers(script + "act 0 0 " + lot + " 1\n", "beside 0", there);
            Check.answers(script + "act 0 0 " + lot + " 1\n", "about 0 0", 3 + lot);
            Check.answers(script + "act 0 0 " + lot + " 1\ndoing 1 1 4\nundo 0\n", "beside 0", 0);
            Check.answers(script + "act 0 0 " + lot + " 1\nworld\n", "beside 0", 0);
            Check.answers(script + "act 0 0 " + lot + " 1\ntold 0a>14;\n", "beside 0", 14);
            Check.answers(script + "act 0 0 " + lot + " 1\ntold 0b>14;\n", "beside 0", 0);
        }
        // lines of another machine do not count, whether its number is less or more
        String two = script + "give 0 1 255 20 100\nmachine 0 0\ngive 0 2 255 20 100\nact 0 0 1 1\nact 2 0 0 1\n";
        Check.answers(two, "beside 0", 1);
        Check.answers(two, "beside 1", 15);
        Check.answers(two, "beside 2", 9);
        String same = "told 0a>1;1a>2;2a>3;3a>3;\n3* machine 0 0\n";
        for (int machine = 0; machine < 3; machine++) {
            String others = same;
            for (int m = 0; m < 3; m++) {
                others += "give 0 " + m + " 1 9 9\n" + (m == machine ? "" : "act " + m + " 0 0 0\n");
            }
            Check.answers(others, "beside " + machine, 0);
            Check.answers(others + "act " + machine + " 0 0 0\n", "beside " + machine, 1);
            Check.answers(others, "about " + machine + " 3", 0);
        }
        // two lines: the second goes on from where the first would have led
        Check.answers(script + "act 0 0 0 1\nact 0 0 0 1\n", "beside 0", 9);
        Check.answers(script + "act 0 1 0 0\nact 0 0 0 1\n", "beside 0", 7);
        Check.answers(script + "keep 0\nact 0 0 1 1\nback 0\n", "beside 0", 0);
    }

    private static void imagesOfAll() {
        for (int image = 0; image < 2; image++) {
            String kept = Scenes.MIDDLE + "keep " + image + "\n";
            String changed = kept + "master 0 1\nlimit 1 60\nmachine 0 1\ngive 0 2 1 1 1\nwithdraw 1\n4* yes 1\n"
                    + "act 0 1 0 0\nundo 0\nact 0 1 0 1\nwait 7\n";
            Check.answers(changed, "back " + image, 8);
            Check.holds("all is as image " + image + " has it",
                    Arrays.equals(Watch.after(Hall.calls(kept)),
                            Watch.after(Hall.calls(changed + "back " + image + "\n"))));
            // what images do not keep
            String other = kept + "doing 6 0 9\ndoing 6 1 3\nwish 3 6\ntyped x\ndue 1 1\nback " + image + "\n";
            Check.answers(other, "doing 6 0 1", 9);
            Check.answers(other, "doing 6 1 0", 3);
            Check.answers(other, "wish 3 0", 6);
            Check.answers(other, "clear", 14);
            Check.answers(other, "trace", 101102 + 11);
            Check.answers(kept + "clear\nworld\nback " + image + "\n", "count 0", 0);
            Check.answers(kept + "clear\nworld\nback " + image + "\n", "count 1", 0);
            // the other image is another, and one may be kept again
            Check.answers(kept + "wait 2\nkeep " + (1 - image) + "\nwait 3\nback " + image + "\n",
                    "back " + (1 - image), 10);
            Check.answers(kept + "wait 2\nkeep " + image + "\nwait 3\n", "back " + image, 10);
            Check.answers(kept + "2* back " + image + "\nwait 2\n", "back " + image, 8);
        }
    }
}
