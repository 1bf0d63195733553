/** Promises 1 to 10: the text, and what a world tells. */
public final class WorldTest {
    public static void main(String[] args) {
        newObject();
        typing();
        faultsOfTokens();
        faultsOfPlace();
        faultsOfNumber();
        worldsThatAreTold();
        sets();
        lots();
        letAndDoom();
        sure();
        instead();
        Check.finish();
    }

    private static void newObject() {
        ReinHall x = new ReinHall();
        Check.due("new set(0)", x.set(0), 0);
        Check.due("new set(1)", x.set(1), 0);
        Check.due("new set(2)", x.set(2), 65535);
        Check.due("new set(3)", x.set(3), 0);
        Check.due("new set(4)", x.set(4), 65535);
        Check.due("new budget(0, 0)", x.budget(0, 0), ReinHall.NONE);
        Check.due("new budget(0, 1)", x.budget(0, 1), 1000);
        Check.due("new budget(0, 2)", x.budget(0, 2), 0);
        int[] counts = {0, 0, 1, 0, 0, 0, 0, 0, 0};
        for (int i = 0; i < counts.length; i++) {
            Check.due("new count(" + i + ")", x.count(i), counts[i]);
        }
        for (int s = 0; s < 16; s++) {
            Check.due("new let", x.let(s), 0);
            Check.due("new doom", x.doom(s), ReinHall.NONE);
            Check.due("new sure of goal", x.sure(s, 1, 0), ReinHall.NONE);
            Check.due("new sure of rest", x.sure(s, 2, 0), 0);
            Check.due("new first doing", x.sure(s, 2, 1), ReinHall.NONE);
            Check.due("new instead", x.instead(s, 7), ReinHall.NONE);
            Check.due("new wished", x.wished(s), ReinHall.NONE);
        }
        for (int d = 0; d < 8; d++) {
            Check.due("new price", x.doing(d, 0, 1), 1);
            Check.due("new kind", x.doing(d, 1, 0), 0);
        }
        Check.due("new trace", x.trace(), 0);
        Check.due("new quarrel", x.quarrel(), ReinHall.NONE);
        Check.due("new round(0)", x.round(0), 0);
        Check.due("new round(1)", x.round(1), ReinHall.NONE);
        Check.due("new back(0)", x.back(0), ReinHall.STATE);
    }

    private static void typing() {
        ReinHall x = new ReinHall();
        Check.due("type n = 0", x.type(48, 0), ReinHall.BAD);
        Check.due("type n = 9", x.type(48, 9), ReinHall.BAD);
        Check.due("type n = -1", x.type(48, -1), ReinHall.BAD);
        Check.due("type n = min", x.type(48, Integer.MIN_VALUE), ReinHall.BAD);
        // the upper bytes of v are left out
        Check.due("type", x.type(0x7A7A7A7A30206100L >> 8, 3), 3);
        Check.due("type", x.type(0x3E313B, 3), 6);
        Check.due("world", x.world(), 1);
        Check.due("lot", x.lot(0, 0, 0), 1);
        Check.due("clear of an empty text", x.clear(), 0);
        for (int i = 1; i <= 74; i++) {
            Check.due("type", x.type(0x2020202020202020L, 8), 8 * i);
        }
        Check.due("type 592 + 1", x.type(32, 1), 593);
        Check.due("type beyond 600", x.type(32, 8), ReinHall.FULL);
        Check.due("BAD goes ahead of FULL", x.type(32, 9), ReinHall.BAD);
        Check.due("nothing came to it", x.count(7), 593);
        Check.due("type to 600", x.type(0x20202020202020L, 7), 600);
        Check.due("type 601", x.type(32, 1), ReinHall.FULL);
        Check.due("all blanks", x.world(), 0);
        Check.due("no rest now", x.set(2), 0);
        Check.due("all broken", x.set(3), 65535);
        Check.types(x, "abc");
        Check.due("clear", x.clear(), 3);
        Check.due("count(7)", x.count(7), 0);
        Check.due("type of bytes above 127", x.type(-1, 2), 2);
        Check.due("a byte that begins no token", x.world(), -10);
    }

    private static void faultsOfTokens() {
        Check.tells("", 0);
        Check.tells("   ", 0);
        Check.tells("0 a > 1 ;", 1);
        Check.tells("0a>1;", 1);
        Check.tells("15 h>15;", 1);
        Check.tells("16 a>1;", -10);
        Check.tells("0 a>16;", -14);
        Check.tells("0 a>1 20;", -16);
        Check.tells("00 a>1;", -10);
        Check.tells("01 a>1;", -10);
        Check.tells("0 a>015;", -14);
        Check.tells("0 a>4294967296;", -14);
        Check.tells("0 a>42949672961 ;", -14);
        Check.tells("0 a>18446744073709551617;", -14);
        Check.tells("0 i>1;", -12);
        Check.tells("0 z>1;", -12);
        Check.tells("0 ab>1;", -12);
        Check.tells("0 A>1;", -12);
        Check.tells("0 a=1;", -13);
        Check.tells("0 a>-1;", -14);
        Check.tells("0\ta>1;", -11);
        Check.tells("0 a>1;\n", -16);
        Check.tells("0 a>1.", -15);
        Check.tells("neve 1;", -10);
        Check.tells("nevers 1;", -10);
        Check.tells("  barr 0>1;", -12);
        Check.tells("sever 1;", -10);
        Check.tells("coal 1;", -10);
        Check.tells("jest 1;", -10);
        Check.tells("car 0>1;", -10);
        Check.tells("never1;goal2;rest3 4;bar0>1;", 0);
        Check.tells("0 a>1b;", -15);
        Check.tells("0 a>1z;", -15);
        Check.tells("0 a>1 2", -17);
        Check.tells("goa", -10);
        Check.tells("0 a>1; \200", -17);
        Check.tells("0 a>1; \377", -17);
        Check.tells("0 a>1; \000", -17);
        Check.tells("`", -10);
        Check.tells("{", -10);
        Check.tells(":", -10);
        Check.tells("/", -10);
    }

    private static void faultsOfPlace() {
        Check.tells(";", -10);
        Check.tells(">", -10);
        Check.tells("a", -10);
        Check.tells("0", -11);
        Check.tells("0  ", -13);
        Check.tells("0 a", -13);
        Check.tells("0 a>", -14);
        Check.tells("0 a>1", -15);
        Check.tells("0 a>1 2 ", -18);
        Check.tells("0 >1;", -12);
        Check.tells("0 1>1;", -12);
        Check.tells("0 never;", -12);
        Check.tells("0 a 1;", -14);
        Check.tells("0 a;", -13);
        Check.tells("0 a>;", -14);
        Check.tells("0 a>b;", -14);
        Check.tells("0 a>1 b;", -16);
        Check.tells("0 a>1>;", -15);
        Check.tells("0 a>1;;", -16);
        Check.tells("never;", -15);
        Check.tells("never", -15);
        Check.tells("never a;", -16);
        Check.tells("never 1", -17);
        Check.tells("never 1>2;", -17);
        Check.tells("goal;", -14);
        Check.tells("goal 1 bar;", -17);
        Check.tells("rest >;", -15);
        Check.tells("bar;", -13);
        Check.tells("bar", -13);
        Check.tells("bar 0", -15);
        Check.tells("bar 0;", -15);
        Check.tells("bar 0 1;", -16);
        Check.tells("bar 0>;", -16);
        Check.tells("bar 0>", -16);
        Check.tells("bar 0>1", -17);
        Check.tells("bar 0>1 2;", -18);
        Check.tells("bar a>1;", -14);
    }

    private static void faultsOfNumber() {
        Check.tells(";".repeat(600), -10);
        Check.tells("a;>".repeat(200), -10);
        Check.tells(" ".repeat(599) + "0", -610);
        Check.tells(" ".repeat(599) + ";", -609);
        Check.tells("0".repeat(600), -10);
        Check.tells("z".repeat(600), -10);
        Check.tells("goal 1" + " ".repeat(593) + ";", 0);
        Check.tells("rest 1;".repeat(85) + "0a>1;", 1);
        Check.tells("rest 1;".repeat(85) + "0a>1 ", -610);
        Check.tells("0 a>1 1;", -16);
        Check.tells("0 a>1 2 1;", -18);
        Check.tells("0 a>1 2 3 4;", 1);
        Check.tells("0 a>1 2 3 4 5;", -22);
        Check.tells("0 a>1;0 a>2;", -18);
        Check.tells("0 a>1;0 b>2;1 a>0;", 3);
        Check.tells("rest 0 1 2 3 4 5 6 7 8 9 10 11 12 13 14 15;", 0);
        Check.tells("rest 0 0 0 0 0 0 0 0 0 0 0 0 0 0 0 0;", 0);
        Check.tells("rest 0 0 0 0 0 0 0 0 0 0 0 0 0 0 0 0 0;", -47);
        Check.tells("rest 0 0 0 0 0 0 0 0 0 0 0 0 0 0 0 0;rest 1;", 0);
        StringBuilder bars = new StringBuilder();
        for (int i = 0; i < 10; i++) {
            bars.append("bar 0>0;");
        }
        Check.tells(bars.toString(), 0);
        Check.tells(bars + "bar 0>0;", -90);
        Check.tells(bars + "  bar", -92);
        StringBuilder ways = new StringBuilder();
        for (int i = 0; i < 60; i++) {
            ways.append(i / 8).append((char) ('a' + i % 8)).append(">1;");
        }
        Check.tells(ways.toString(), 60);
        Check.tells(ways + "goal 1;", 60);
        Check.tells(ways + "9a>1;", -310);
        Check.tells(ways + " 0 a>1;", -311);
        Check.tells(ways + "9", -310);
    }

    private static void worldsThatAreTold() {
        ReinHall x = Check.of("0 a>1;bar 3>4;never 2;goal 3;rest 1;");
        Check.due("count(0)", x.count(0), 1);
        Check.due("count(1)", x.count(1), 1);
        Check.types(x, "5 b>6;bar 0>1;never 5;oops");
        Check.due("a fault at the end", x.world(), -32);
        Check.due("ways are as they were", x.count(0), 1);
        Check.due("bars are as they were", x.count(1), 1);
        Check.due("lots are as they were", x.lot(5, 1, -1), 0);
        Check.due("never is as it was", x.set(0), 4);
        Check.due("goal is as it was", x.set(1), 8);
        Check.due("rest is as it was", x.set(2), 2);
        Check.due("the text is as it was", x.clear(), 26);
        Check.types(x, "2 c>3;goal 4;goal 5 4;");
        Check.due("another world", x.world(), 1);
        Check.due("the old way is gone", x.lot(0, 0, -1), 0);
        Check.due("the new way", x.lot(2, 2, 0), 3);
        Check.due("bars are gone", x.count(1), 0);
        Check.due("never is gone", x.set(0), 0);
        Check.due("goals all together", x.set(1), 48);
        Check.due("rest is gone", x.set(2), 0);
        Check.types(x, "5 b>9 8;2 c>3;bar 7>7;");
        Check.due("what a faulty text told is gone, too", x.world(), 2);
        Check.due("its lots are new", x.lot(5, 1, -1), 2);
        Check.due("its lots are new", x.lot(2, 2, -1), 1);
        Check.due("its bars are new", x.count(1), 1);
        Check.due("an empty text is a world", x.world(), 0);
        Check.due("no goals", x.set(1), 0);
    }

    private static void sets() {
        ReinHall x = Check.of("0 a>1 2;0 b>3;1 a>0;2 a>4;3 a>0 1;never 4;goal 3;rest 1 4;rest 6;");
        Check.due("never", x.set(0), 1 << 4);
        Check.due("goal", x.set(1), 1 << 3);
        Check.due("rest", x.set(2), 1 << 1 | 1 << 4 | 1 << 6);
        Check.due("broken", x.set(3), 0xFFFF & ~(1 | 2 | 4 | 8 | 64));
        Check.due("safe", x.set(4), 1 | 2 | 8 | 64);
        Check.due("set(-1)", x.set(-1), ReinHall.BAD);
        Check.due("set(5)", x.set(5), ReinHall.BAD);
        ReinHall chain = Check.of("0 a>1;1 a>2;2 a>3;3 a>4;4 a>5;5 a>6;6 a>7;7 a>8;8 a>9;9 a>10;"
                + "10 a>11;11 a>12;12 a>13;13 a>14;14 a>15;");
        Check.due("a chain that ends broken: safe", chain.set(4), 0);
        Check.due("a chain that ends broken: broken", chain.set(3), 1 << 15);
        Check.due("a chain that ends broken: doom", chain.doom(0), 15);
        ReinHall ring = Check.of("0 a>1;1 a>0;");
        Check.due("going round for ever is safe", ring.set(4), 3);
    }

    private static void lots() {
        ReinHall x = Check.of("3 c>9 2 15 0;");
        Check.due("how many", x.lot(3, 2, -1), 4);
        Check.due("in the order of the text", x.lot(3, 2, 0), 9);
        Check.due("in the order of the text", x.lot(3, 2, 1), 2);
        Check.due("in the order of the text", x.lot(3, 2, 2), 15);
        Check.due("in the order of the text", x.lot(3, 2, 3), 0);
        Check.due("beyond", x.lot(3, 2, 4), ReinHall.BAD);
        Check.due("below", x.lot(3, 2, -2), ReinHall.BAD);
        Check.due("no way", x.lot(2, 3, -1), 0);
        Check.due("no way, no lot", x.lot(2, 3, 0), ReinHall.BAD);
        Check.due("state -1", x.lot(-1, 2, -1), ReinHall.BAD);
        Check.due("state 16", x.lot(16, 2, -1), ReinHall.BAD);
        Check.due("doing -1", x.lot(3, -1, -1), ReinHall.BAD);
        Check.due("doing 8", x.lot(3, 8, -1), ReinHall.BAD);
        Check.due("extremes", x.lot(Integer.MAX_VALUE, Integer.MIN_VALUE, Integer.MAX_VALUE), ReinHall.BAD);
    }

    private static void letAndDoom() {
        // 5 is lost; 4 may come to it at once; 3 by its best way in two; 2 may choose safety
        ReinHall x = Check.of("5 a>0;4 a>5 0;3 a>4;3 b>5 0;2 a>3;2 h>0;0 a>0;never 5;rest 1;");
        Check.due("safe", x.set(4), 1 | 2 | 4);
        Check.due("let", x.let(2), 1 << 7);
        Check.due("let in rest without ways", x.let(1), 0);
        Check.due("nothing is let where it is not safe", x.let(5), 0);
        Check.due("nothing is let where it is not safe", x.let(3), 0);
        Check.due("let(-1)", x.let(-1), ReinHall.BAD);
        Check.due("let(16)", x.let(16), ReinHall.BAD);
        Check.due("doom of a never", x.doom(5), 0);
        Check.due("doom of one without ways", x.doom(9), 0);
        Check.due("doom, the least of lots", x.doom(4), 1);
        Check.due("doom, the greatest of ways", x.doom(3), 2);
        Check.due("doom of a safe one", x.doom(2), ReinHall.NONE);
        Check.due("doom(-1)", x.doom(-1), ReinHall.BAD);
        Check.due("doom(16)", x.doom(16), ReinHall.BAD);
        ReinHall y = Check.of("0 a>1 2;1 a>3;2 a>1;never 3;rest 0 3;");
        Check.due("rest is safe whatever its ways", y.doom(0), ReinHall.NONE);
        Check.due("but not what is never", y.doom(3), 0);
        Check.due("a way that is not safe is not let", y.let(0), 0);
        Check.due("doom goes on", y.doom(2), 2);
    }

    private static void sure() {
        // a leads to 1 or back, b surely on by 2; 3 is a goal
        ReinHall x = Check.of("0 a>1 0;0 b>2;0 c>2;1 a>3;2 a>1;3 a>3;4 a>4;rest 3 7;goal 3 5;5 a>6;never 6;");
        Check.due("in it", x.sure(3, 1, 0), 0);
        Check.due("in it, no doing", x.sure(3, 1, 1), ReinHall.NONE);
        Check.due("by one", x.sure(1, 1, 0), 1);
        Check.due("by one, the doing", x.sure(1, 1, 1), 0);
        Check.due("surely, not by luck", x.sure(0, 1, 0), 3);
        Check.due("the least that does so", x.sure(0, 1, 1), 1);
        Check.due("never", x.sure(4, 1, 0), ReinHall.NONE);
        Check.due("never, no doing", x.sure(4, 1, 1), ReinHall.NONE);
        Check.due("a goal that is not safe", x.sure(5, 1, 0), ReinHall.NONE);
        Check.due("rest that is no goal", x.sure(7, 1, 0), ReinHall.NONE);
        Check.due("rest", x.sure(7, 2, 0), 0);
        Check.due("rest", x.sure(0, 2, 0), 3);
        Check.due("state -1", x.sure(-1, 1, 0), ReinHall.BAD);
        Check.due("state 16", x.sure(16, 1, 0), ReinHall.BAD);
        Check.due("set 0", x.sure(0, 0, 0), ReinHall.BAD);
        Check.due("set 3", x.sure(0, 3, 0), ReinHall.BAD);
        Check.due("what -1", x.sure(0, 1, -1), ReinHall.BAD);
        Check.due("what 2", x.sure(0, 1, 2), ReinHall.BAD);
        ReinHall y = Check.of("0 a>9;0 d>1 2;0 e>1;1 a>3;2 a>1;3 a>3;goal 3;");
        Check.due("the greatest of lots", y.sure(0, 1, 0), 2);
        Check.due("of doings that are let the least", y.sure(0, 1, 1), 4);
    }

    private static void instead() {
        ReinHall x = Check.of("0 a>1;0 b>1;0 c>1;0 d>9;1 a>1;never 9;rest 2;");
        Check.due("itself", x.instead(0, 1), 1);
        Check.due("alike prices: the least", x.instead(0, 3), 0);
        x.doing(0, 0, 7);
        x.doing(1, 0, 12);
        x.doing(2, 0, 9);
        x.doing(3, 0, 11);
        Check.due("the nearest, above", x.instead(0, 3), 1);
        x.doing(3, 0, 8);
        Check.due("one below and one above: the least", x.instead(0, 3), 0);
        x.doing(7, 0, 20);
        Check.due("one without a way", x.instead(0, 7), 1);
        Check.due("rest", x.instead(2, 0), ReinHall.NONE);
        Check.due("no ways", x.instead(5, 0), ReinHall.NONE);
        Check.due("state -1", x.instead(-1, 0), ReinHall.BAD);
        Check.due("state 16", x.instead(16, 0), ReinHall.BAD);
        Check.due("doing -1", x.instead(0, -1), ReinHall.BAD);
        Check.due("doing 8", x.instead(0, 8), ReinHall.BAD);
        // dooms: 9 has 0, 3 has 1, 4 has 2
        ReinHall y = Check.of("3 a>9;4 a>3;5 b>3;5 c>4 6;5 d>4;5 e>4 9;6 a>6;never 9 8 7;rest 7;"
                + "8 c>9;8 f>6;8 g>6;7 a>6;");
        Check.due("the greatest of the least dooms", y.instead(5, 1), 2);
        Check.due("doom of it", y.doom(5), 3);
        Check.due("lots without dooms go ahead", y.instead(8, 0), 5);
        Check.due("even itself is not let there", y.instead(8, 6), 5);
        Check.due("rest that is never", y.instead(7, 0), ReinHall.NONE);
        ReinHall z = Check.of("0 a>1;0 b>2;1 a>2;3 b>0;3 c>0;never 2;");
        Check.due("the first doing of all", z.instead(0, 7), 0);
        Check.due("alike dooms: the least", z.instead(3, 2), 1);
    }
}
