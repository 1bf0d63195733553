/** Promises 11 to 20: doings, masters, machines and leaves. */
public final class LeavesTest {
    public static void main(String[] args) {
        doings();
        dues();
        masters();
        limits();
        machines();
        giving();
        lending();
        withdrawing();
        standing();
        saying();
        Check.finish();
    }

    private static void doings() {
        ReinHall x = new ReinHall();
        Check.due("price was 1", x.doing(0, 0, 20), 1);
        Check.due("price was 20", x.doing(0, 0, 0), 20);
        Check.due("price was 0", x.doing(0, 0, 5), 0);
        Check.due("kind was 0", x.doing(0, 1, 5), 0);
        Check.due("kind was 5", x.doing(0, 1, 0), 5);
        Check.due("another's price", x.doing(7, 0, 3), 1);
        Check.due("price 21", x.doing(0, 0, 21), ReinHall.BAD);
        Check.due("price -1", x.doing(0, 0, -1), ReinHall.BAD);
        Check.due("kind 6", x.doing(0, 1, 6), ReinHall.BAD);
        Check.due("kind -1", x.doing(0, 1, -1), ReinHall.BAD);
        Check.due("what 2", x.doing(0, 2, 1), ReinHall.BAD);
        Check.due("what -1", x.doing(0, -1, 1), ReinHall.BAD);
        Check.due("doing 8", x.doing(8, 0, 1), ReinHall.BAD);
        Check.due("doing -1", x.doing(-1, 0, 1), ReinHall.BAD);
        Check.due("nothing changed", x.doing(0, 0, 1), 5);
    }

    private static void dues() {
        ReinHall x = new ReinHall();
        int[][] want = {
            {0, 0, 1, 1, 2, 0}, {1, 0, 2, 1, 3, 2}, {2, 0, 3, 2, 4, 4}, {3, 1, 4, 2, 5, 6},
            {5, 1, 6, 3, 7, 10}, {20, 6, 21, 11, 22, 40},
        };
        for (int[] row : want) {
            x.doing(2, 0, row[0]);
            int[] dues = {row[0], row[1], row[2], row[3], row[4], row[5]};
            for (int kind = 0; kind < 6; kind++) {
                Check.due("due(" + kind + ") of " + row[0], x.due(kind, 2), dues[kind]);
            }
        }
        Check.due("trace", x.trace(), 6 * (1 + 11 + 101 + 1101 + 10001 + 100001));
        Check.due("due(-1)", x.due(-1, 0), ReinHall.BAD);
        Check.due("due(6)", x.due(6, 0), ReinHall.BAD);
        Check.due("due of doing -1", x.due(0, -1), ReinHall.BAD);
        Check.due("due of doing 8", x.due(0, 8), ReinHall.BAD);
        Check.due("trace is as it was", x.trace(), 6 * 111216);
    }

    private static void masters() {
        ReinHall x = new ReinHall();
        Check.due("under -1", x.master(-1, 5), ReinHall.BAD);
        Check.due("under 1", x.master(1, 5), ReinHall.BAD);
        Check.due("limit -1", x.master(0, -1), ReinHall.BAD);
        Check.due("limit 1001", x.master(0, 1001), ReinHall.BAD);
        Check.due("first", x.master(0, 0), 1);
        for (int i = 2; i < 8; i++) {
            Check.due("next", x.master(i - 1, 1000), i);
        }
        Check.due("a ninth", x.master(0, 5), ReinHall.FULL);
        Check.due("BAD goes ahead", x.master(8, 5), ReinHall.BAD);
        Check.due("count(2)", x.count(2), 8);
        Check.due("under", x.budget(7, 0), 6);
        Check.due("limit", x.budget(7, 1), 1000);
        Check.due("spent", x.budget(7, 2), 0);
        Check.due("limit 0", x.budget(1, 1), 0);
        Check.due("above all", x.budget(0, 0), ReinHall.NONE);
        Check.due("what -1", x.budget(0, -1), ReinHall.BAD);
        Check.due("what 3", x.budget(0, 3), ReinHall.BAD);
        Check.due("master 8", x.budget(8, 0), ReinHall.BAD);
        Check.due("master -1", x.budget(-1, 0), ReinHall.BAD);
    }

    private static void limits() {
        ReinHall x = Check.of("0 a>0;");
        x.master(0, 20);
        x.machine(1, 0);
        x.give(1, 0, 1, 9, 50);
        x.doing(0, 0, 6);
        Check.due("act", x.act(0, 0, 0, 0), 0);
        Check.due("below what is spent", x.limit(1, 5), ReinHall.STATE);
        Check.due("just what is spent", x.limit(1, 6), 20);
        Check.due("above it too", x.limit(0, 5), ReinHall.STATE);
        Check.due("more than 1000", x.limit(0, 1001), ReinHall.BAD);
        Check.due("less than 0", x.limit(0, -1), ReinHall.BAD);
        Check.due("no such master", x.limit(2, 9), ReinHall.BAD);
        Check.due("no such master", x.limit(-1, 9), ReinHall.BAD);
        Check.due("0's", x.limit(0, 900), 1000);
        Check.due("it is so", x.budget(0, 1), 900);
        Check.due("refused by its own limit", x.act(0, 0, 0, 0), -14);
        Check.due("more", x.limit(1, 12), 6);
        Check.due("just enough", x.act(0, 0, 0, 0), 0);
        Check.due("spent", x.budget(1, 2), 12);
    }

    private static void machines() {
        ReinHall x = new ReinHall();
        x.master(0, 5);
        Check.due("no such master", x.machine(2, 0), ReinHall.BAD);
        Check.due("no such master", x.machine(-1, 0), ReinHall.BAD);
        Check.due("state -1", x.machine(0, -1), ReinHall.BAD);
        Check.due("state 16", x.machine(0, 16), ReinHall.BAD);
        Check.due("none is there", x.about(0, 0), ReinHall.BAD);
        for (int i = 0; i < 4; i++) {
            Check.due("machine", x.machine(i % 2, 12 + i), i);
        }
        Check.due("a fifth", x.machine(0, 0), ReinHall.FULL);
        Check.due("BAD goes ahead", x.machine(0, 16), ReinHall.BAD);
        Check.due("its state", x.about(3, 0), 15);
        Check.due("its master", x.about(3, 1), 1);
        Check.due("its yes", x.about(3, 2), 0);
        Check.due("its lines", x.about(3, 3), 0);
        Check.due("what -1", x.about(0, -1), ReinHall.BAD);
        Check.due("what 4", x.about(0, 4), ReinHall.BAD);
        Check.due("machine 4", x.about(4, 0), ReinHall.BAD);
        Check.due("machine -1", x.about(-1, 0), ReinHall.BAD);
    }

    private static void giving() {
        ReinHall x = new ReinHall();
        x.master(0, 50);
        x.master(1, 50);
        x.master(0, 50);
        x.machine(2, 0);
        Check.due("by its own", x.give(2, 0, 255, 20, 100), 0);
        Check.due("by one above", x.give(1, 0, 0, 1, 0), 1);
        Check.due("by the highest", x.give(0, 0, 9, 3, 4), 2);
        Check.due("by one beside", x.give(3, 0, 9, 3, 4), ReinHall.STATE);
        x.machine(1, 0);
        Check.due("by one below", x.give(2, 1, 9, 3, 4), ReinHall.STATE);
        Check.due("no such master", x.give(4, 0, 9, 3, 4), ReinHall.BAD);
        Check.due("no such master", x.give(-1, 0, 9, 3, 4), ReinHall.BAD);
        Check.due("no such machine", x.give(0, 2, 9, 3, 4), ReinHall.BAD);
        Check.due("no such machine", x.give(0, -1, 9, 3, 4), ReinHall.BAD);
        Check.due("doings 256", x.give(0, 0, 256, 3, 4), ReinHall.BAD);
        Check.due("doings -1", x.give(0, 0, -1, 3, 4), ReinHall.BAD);
        Check.due("uses 0", x.give(0, 0, 9, 0, 4), ReinHall.BAD);
        Check.due("uses 21", x.give(0, 0, 9, 21, 4), ReinHall.BAD);
        Check.due("till -1", x.give(0, 0, 9, 3, -1), ReinHall.BAD);
        Check.due("till 101", x.give(0, 0, 9, 3, 101), ReinHall.BAD);
        int[] want = {0, 9, 3, 4, ReinHall.NONE, 0, 1, 0};
        for (int i = 0; i < want.length; i++) {
            Check.due("leave(2, " + i + ")", x.leave(2, i), want[i]);
        }
        Check.due("leave what -1", x.leave(2, -1), ReinHall.BAD);
        Check.due("leave what 8", x.leave(2, 8), ReinHall.BAD);
        Check.due("leave 3", x.leave(3, 0), ReinHall.BAD);
        Check.due("leave -1", x.leave(-1, 0), ReinHall.BAD);
        for (int i = 3; i < 20; i++) {
            Check.due("give", x.give(0, 1, 1, 1, 1), i);
        }
        Check.due("a 21st", x.give(0, 1, 1, 1, 1), ReinHall.FULL);
        Check.due("STATE goes ahead of FULL", x.give(3, 1, 1, 1, 1), ReinHall.STATE);
        Check.due("BAD goes ahead of both", x.give(3, 1, 1, 1, 101), ReinHall.BAD);
        Check.due("count(4)", x.count(4), 20);
        Check.due("lend a 21st", x.lend(0, 1, 1, 1, 1), ReinHall.FULL);
        Check.due("lend STATE ahead of FULL", x.lend(0, 0, 1, 1, 1), ReinHall.STATE);
    }

    private static void lending() {
        ReinHall x = Check.of("0 a>0;0 b>0;");
        x.master(0, 100);
        x.machine(1, 0);
        x.machine(0, 0);
        x.machine(0, 0);
        Check.due("give", x.give(1, 0, 7, 5, 10), 0);
        Check.due("lend", x.lend(0, 1, 3, 5, 10), 1);
        Check.due("lend on", x.lend(1, 2, 1, 4, 9), 2);
        Check.due("lend on, back to the first", x.lend(1, 0, 0, 1, 0), 3);
        int[] want = {2, 1, 4, 9, 1, 1, 1, 0};
        for (int i = 0; i < want.length; i++) {
            Check.due("leave(2, " + i + ")", x.leave(2, i), want[i]);
        }
        Check.due("other doings", x.lend(1, 2, 4, 1, 1), ReinHall.STATE);
        Check.due("more uses", x.lend(1, 2, 1, 6, 1), ReinHall.STATE);
        Check.due("till later", x.lend(1, 2, 1, 1, 11), ReinHall.STATE);
        Check.due("of the same machine", x.lend(1, 1, 1, 1, 1), ReinHall.STATE);
        Check.due("no such leave", x.lend(4, 1, 1, 1, 1), ReinHall.BAD);
        Check.due("no such leave", x.lend(-1, 1, 1, 1, 1), ReinHall.BAD);
        Check.due("no such machine", x.lend(0, 3, 1, 1, 1), ReinHall.BAD);
        Check.due("doings 256", x.lend(0, 1, 256, 1, 1), ReinHall.BAD);
        Check.due("uses 0", x.lend(0, 1, 1, 0, 1), ReinHall.BAD);
        Check.due("uses 21", x.lend(0, 1, 1, 21, 1), ReinHall.BAD);
        Check.due("till 101", x.lend(0, 1, 1, 1, 101), ReinHall.BAD);
        Check.due("till -1", x.lend(0, 1, 1, 1, -1), ReinHall.BAD);
        Check.due("act by what is lent", x.act(2, 0, 0, 0), 0);
        Check.due("its use", x.leave(2, 2), 3);
        Check.due("that of which it is", x.leave(1, 2), 4);
        Check.due("and of what that is", x.leave(0, 2), 4);
        Check.due("what is lent beside it keeps its own", x.leave(3, 2), 1);
        Check.due("no more than are left", x.lend(0, 1, 1, 5, 1), ReinHall.STATE);
        Check.due("as many as are left", x.lend(0, 1, 1, 4, 1), 4);
        for (int i = 0; i < 4; i++) {
            Check.due("the first's own use", x.act(0, 1, 0, 0), 1);
        }
        Check.due("none left in the first", x.leave(0, 2), 0);
        Check.due("the lent one has some", x.leave(2, 2), 3);
        Check.due("but does not stand", x.leave(2, 6), 0);
        Check.due("so it is not of use", x.act(2, 0, 0, 0), -12);
        Check.due("nor lent on", x.lend(2, 1, 1, 1, 1), ReinHall.STATE);
    }

    private static void withdrawing() {
        ReinHall x = new ReinHall();
        x.machine(0, 0);
        x.machine(0, 0);
        x.give(0, 0, 255, 20, 100);
        x.lend(0, 1, 255, 20, 100);
        x.lend(1, 0, 255, 20, 100);
        x.lend(2, 1, 255, 20, 100);
        x.lend(0, 1, 255, 20, 100);
        x.give(0, 0, 255, 20, 100);
        Check.due("all stand", x.count(8), 6);
        Check.due("no such leave", x.withdraw(6), ReinHall.BAD);
        Check.due("no such leave", x.withdraw(-1), ReinHall.BAD);
        Check.due("one in the middle", x.withdraw(2), 2);
        Check.due("it is already", x.withdraw(2), ReinHall.STATE);
        Check.due("and what is lent of it", x.withdraw(3), ReinHall.STATE);
        Check.due("those that stand", x.count(8), 4);
        Check.due("the rest of them", x.withdraw(0), 3);
        Check.due("the one beside stands", x.leave(5, 6), 1);
        Check.due("withdrawn", x.leave(4, 7), 1);
        Check.due("not withdrawn", x.leave(5, 7), 0);
        Check.due("uses are still told", x.leave(4, 2), 20);
        Check.due("not lent any more", x.lend(1, 0, 1, 1, 1), ReinHall.STATE);
        Check.due("the last", x.withdraw(5), 1);
        Check.due("none stands", x.count(8), 0);
    }

    private static void standing() {
        ReinHall x = Check.of("0 a>0;");
        x.machine(0, 0);
        x.machine(0, 0);
        x.give(0, 0, 1, 20, 5);
        x.lend(0, 1, 1, 20, 3);
        Check.due("wait", x.wait(3), 3);
        Check.due("the tick is not past", x.leave(1, 6), 1);
        Check.due("wait", x.wait(1), 4);
        Check.due("the tick is past", x.leave(1, 6), 0);
        Check.due("it is not withdrawn", x.leave(1, 7), 0);
        Check.due("that of which it is stands", x.leave(0, 6), 1);
        Check.due("act of the other", x.act(1, 0, 0, 0), -12);
        Check.due("act at 4", x.act(0, 0, 0, 0), 0);
        Check.due("act at 5", x.act(0, 0, 0, 0), 0);
        Check.due("act at 6", x.act(0, 0, 0, 0), -12);
        Check.due("given, though past", x.give(0, 0, 1, 1, 2), 2);
        Check.due("it does not stand", x.leave(2, 6), 0);
        Check.due("nor is it lent", x.lend(2, 1, 1, 1, 1), ReinHall.STATE);
        Check.due("none stands", x.count(8), 0);
    }

    private static void saying() {
        ReinHall x = Check.of("0 a>0;");
        Check.due("no such machine", x.yes(0), ReinHall.BAD);
        x.machine(0, 0);
        Check.due("no such machine", x.yes(-1), ReinHall.BAD);
        for (int i = 1; i <= 9; i++) {
            Check.due("yes", x.yes(0), i);
        }
        Check.due("a tenth", x.yes(0), ReinHall.FULL);
        Check.due("about(0, 2)", x.about(0, 2), 9);
        x.give(0, 0, 1, 20, 100);
        int[] kinds = {0, 1, 4, 5, 2, 3};
        int[] left = {9, 9, 9, 9, 8, 7};
        for (int i = 0; i < kinds.length; i++) {
            x.doing(0, 1, kinds[i]);
            Check.due("act", x.act(0, 0, 0, 0), 0);
            Check.due("yes left after kind " + kinds[i], x.about(0, 2), left[i]);
        }
        Check.due("spent by all kinds", x.budget(0, 2), 1 + 0 + 3 + 2 + 2 + 1);
    }
}
