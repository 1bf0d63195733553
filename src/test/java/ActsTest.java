/** Promises 21 to 27: acts, what is undone, the tick, lines, and how acts are led to leaves. */
public final class ActsTest {
    public static void main(String[] args) {
        badActs();
        refusals();
        guarded();
        leastLeave();
        linesFull();
        undoing();
        undoingKinds();
        waiting();
        lines();
        led();
        spentAllTheWayUp();
        Check.finish();
    }

    private static void badActs() {
        ReinHall x = Check.of("0 a>0;");
        Check.due("no machine", x.act(0, 0, 0, 0), ReinHall.BAD);
        x.machine(0, 0);
        Check.due("machine 1", x.act(1, 0, 0, 0), ReinHall.BAD);
        Check.due("machine -1", x.act(-1, 0, 0, 0), ReinHall.BAD);
        Check.due("doing -1", x.act(0, -1, 0, 0), ReinHall.BAD);
        Check.due("doing 8", x.act(0, 8, 0, 0), ReinHall.BAD);
        Check.due("lot -1", x.act(0, 0, -1, 0), ReinHall.BAD);
        Check.due("lot 4", x.act(0, 0, 4, 0), ReinHall.BAD);
        Check.due("guard -1", x.act(0, 0, 0, -1), ReinHall.BAD);
        Check.due("guard 2", x.act(0, 0, 0, 2), ReinHall.BAD);
        Check.due("the tick is as it was", x.count(6), 0);
        ReinHall y = Check.of("0 a>4 3 2 1;1 a>1;");
        y.machine(0, 0);
        y.machine(0, 0);
        y.give(0, 0, 1, 9, 100);
        Check.due("the fourth lot", y.act(0, 0, 3, 0), 0);
        Check.due("it is there", y.about(0, 0), 1);
        Check.due("the other is not", y.about(1, 0), 0);
        Check.due("no line of the other", y.undo(1), ReinHall.STATE);
    }

    private static void refusals() {
        ReinHall x = Check.of("0 a>0 1;0 b>9;rest 1;never 9;");
        x.master(0, 5);
        x.machine(1, 0);
        Check.due("no way", x.act(0, 7, 0, 0), -11);
        Check.due("no lot", x.act(0, 0, 2, 0), -11);
        Check.due("no leave", x.act(0, 0, 1, 0), -12);
        x.give(1, 0, 2, 9, 100);
        Check.due("no leave with it", x.act(0, 0, 1, 0), -12);
        x.give(1, 0, 1, 9, 100);
        x.doing(0, 1, 2);
        x.doing(0, 0, 5);
        Check.due("no yes", x.act(0, 0, 0, 0), -13);
        x.yes(0);
        Check.due("beyond the limit", x.act(0, 0, 0, 0), -14);
        Check.due("yes is not used", x.about(0, 2), 1);
        Check.due("leave is not used", x.leave(1, 2), 9);
        Check.due("nothing is spent", x.budget(1, 2), 0);
        Check.due("no line", x.count(5), 0);
        Check.due("no tick", x.count(6), 0);
        x.limit(1, 6);
        x.limit(0, 5);
        Check.due("beyond the limit of one above", x.act(0, 0, 0, 0), -14);
        x.limit(0, 6);
        Check.due("just within", x.act(0, 0, 0, 0), 0);
        Check.due("yes is used", x.about(0, 2), 0);
        Check.due("leave is used", x.leave(1, 2), 8);
        Check.due("not the other", x.leave(0, 2), 9);
        Check.due("no yes goes ahead of the limit", x.act(0, 0, 0, 0), -13);
        x.doing(0, 1, 3);
        Check.due("staged asks for it, too", x.act(0, 0, 0, 0), -13);
        x.doing(0, 1, 0);
        x.doing(0, 0, 0);
        Check.due("what costs nothing", x.act(0, 0, 1, 0), 0);
        Check.due("rest without ways: not guarded", x.act(0, 0, 0, 0), -11);
        Check.due("rest without ways: guarded", x.act(0, 0, 0, 1), -11);
    }

    private static void guarded() {
        ReinHall x = Check.of("0 a>9;0 b>1;1 a>9;1 c>0 1;9 h>9;never 9;");
        x.machine(0, 0);
        x.give(0, 0, 255, 20, 100);
        Check.due("instead", x.act(0, 0, 0, 1), 1);
        Check.due("at", x.about(0, 0), 1);
        Check.due("the lot is of what is done", x.act(0, 0, 1, 1), 2);
        Check.due("at", x.about(0, 0), 1);
        Check.due("no such lot of what is done", x.act(0, 0, 2, 1), -11);
        Check.due("beside", x.beside(0), 9);
        Check.due("not guarded", x.act(0, 0, 0, 0), 0);
        Check.due("at", x.about(0, 0), 9);
        Check.due("where nothing keeps it off", x.act(0, 3, 0, 1), 7);
        Check.due("to be done", x.line(3, 2), 3);
        Check.due("done", x.line(3, 3), 7);
        ReinHall y = Check.of("0 a>9;0 b>0;0 c>0;never 9;");
        y.machine(0, 0);
        y.give(0, 0, 3, 20, 100);
        y.doing(1, 0, 5);
        Check.due("no leave for what is done", y.act(0, 0, 0, 1), -12);
        y.doing(0, 0, 6);
        Check.due("by price another", y.act(0, 0, 0, 1), 1);
        Check.due("its own price", y.budget(0, 2), 5);
    }

    private static void leastLeave() {
        ReinHall x = Check.of("0 a>0;0 b>0;");
        x.machine(0, 0);
        x.machine(0, 0);
        x.give(0, 1, 3, 9, 100);
        x.give(0, 0, 2, 9, 100);
        x.give(0, 0, 1, 1, 100);
        x.give(0, 0, 3, 9, 100);
        Check.due("act", x.act(0, 0, 0, 0), 0);
        Check.due("the least with that doing", x.line(0, 6), 2);
        Check.due("act", x.act(0, 0, 0, 0), 0);
        Check.due("the next, when it is used up", x.line(1, 6), 3);
        Check.due("act", x.act(0, 1, 0, 0), 1);
        Check.due("the least with the other", x.line(2, 6), 1);
        x.withdraw(1);
        Check.due("act", x.act(0, 1, 0, 0), 1);
        Check.due("the next, when it is withdrawn", x.line(3, 6), 3);
    }

    private static void linesFull() {
        ReinHall x = Check.of("0 a>0;");
        x.machine(0, 0);
        x.doing(0, 0, 0);
        for (int i = 0; i < 4; i++) {
            x.give(0, 0, 1, 20, 100);
        }
        for (int i = 0; i < 60; i++) {
            Check.due("act", x.act(0, 0, 0, 0), 0);
        }
        Check.due("a 61st line", x.act(0, 0, 0, 0), -15);
        Check.due("count(5)", x.count(5), 60);
        Check.due("nothing is used", x.leave(3, 2), 20);
        Check.due("the tick", x.count(6), 60);
        x.doing(0, 1, 2);
        Check.due("no yes goes ahead", x.act(0, 0, 0, 0), -13);
        x.doing(0, 1, 0);
        x.doing(0, 0, 1);
        x.limit(0, 0);
        Check.due("the limit goes ahead", x.act(0, 0, 0, 0), -14);
        Check.due("about(0, 3)", x.about(0, 3), 60);
        Check.due("the last line", x.line(59, 1), 0);
        Check.due("beyond", x.line(60, 1), ReinHall.BAD);
    }

    private static void undoing() {
        ReinHall x = Check.of("0 a>1;1 a>2;2 a>3;3 a>0;");
        Check.due("no machine", x.undo(0), ReinHall.BAD);
        x.master(0, 100);
        x.machine(1, 0);
        x.machine(0, 2);
        x.give(1, 0, 1, 9, 100);
        x.give(0, 1, 1, 9, 100);
        x.doing(0, 1, 4);
        Check.due("no line", x.undo(0), ReinHall.STATE);
        x.act(0, 0, 0, 0);
        x.act(0, 0, 0, 0);
        x.act(1, 0, 0, 0);
        Check.due("spent", x.budget(0, 2), 9);
        Check.due("the latest of this machine", x.undo(0), 1);
        Check.due("back where it was", x.about(0, 0), 1);
        Check.due("given back", x.budget(1, 2), 3);
        Check.due("given back all the way up", x.budget(0, 2), 6);
        Check.due("not the use", x.leave(0, 2), 7);
        Check.due("not the tick", x.count(6), 3);
        Check.due("it is told so", x.line(1, 8), 1);
        Check.due("the other is not", x.line(0, 8), 0);
        Check.due("lines stay", x.about(0, 3), 2);
        Check.due("not twice, nor the one ahead", x.undo(0), ReinHall.STATE);
        Check.due("the other machine is where it was", x.about(1, 0), 3);
        x.act(0, 0, 0, 0);
        Check.due("a new one", x.undo(0), 3);
        Check.due("machine 2", x.undo(2), ReinHall.BAD);
        Check.due("machine -1", x.undo(-1), ReinHall.BAD);
    }

    private static void undoingKinds() {
        ReinHall x = Check.of("0 a>9;0 b>1;1 b>0;never 9;");
        x.machine(0, 0);
        x.give(0, 0, 3, 9, 100);
        x.doing(0, 1, 4);
        Check.due("b instead of a", x.act(0, 0, 0, 1), 1);
        Check.due("the kind of what was done", x.undo(0), ReinHall.STATE);
        x.doing(1, 1, 4);
        x.doing(1, 0, 20);
        Check.due("its kind now", x.undo(0), 0);
        Check.due("what was spent then", x.budget(0, 2), 0);
        for (int kind = 0; kind < 6; kind++) {
            x.doing(1, 1, kind);
            x.yes(0);
            x.act(0, 1, 0, 0);
            Check.due("undo of kind " + kind, x.undo(0), kind == 4 ? x.count(5) - 1 : ReinHall.STATE);
        }
        Check.due("yes is not given back", x.about(0, 2), 4);
    }

    private static void waiting() {
        ReinHall x = Check.of("0 a>0;");
        Check.due("wait(0)", x.wait(0), ReinHall.BAD);
        Check.due("wait(-1)", x.wait(-1), ReinHall.BAD);
        Check.due("wait(51)", x.wait(51), ReinHall.BAD);
        Check.due("wait(max)", x.wait(Integer.MAX_VALUE), ReinHall.BAD);
        Check.due("wait(1)", x.wait(1), 1);
        Check.due("wait(50)", x.wait(50), 51);
        Check.due("beyond 100", x.wait(50), ReinHall.STATE);
        Check.due("to 100", x.wait(49), 100);
        Check.due("beyond 100", x.wait(1), ReinHall.STATE);
        x.machine(0, 0);
        x.give(0, 0, 1, 9, 100);
        Check.due("an act at 100", x.act(0, 0, 0, 0), 0);
        Check.due("goes on beyond", x.count(6), 101);
        Check.due("no leave stands now", x.act(0, 0, 0, 0), -12);
        Check.due("beyond 100", x.wait(1), ReinHall.STATE);
    }

    private static void lines() {
        ReinHall x = Check.of("0 a>9;0 b>3 4;3 c>0;never 9;rest 4;");
        x.machine(0, 5);
        x.machine(0, 0);
        x.give(0, 0, 255, 9, 100);
        x.give(0, 1, 255, 9, 100);
        x.doing(1, 0, 7);
        x.wait(4);
        Check.due("act", x.act(1, 0, 0, 1), 1);
        Check.due("act", x.act(1, 2, 0, 0), 2);
        int[] first = {4, 1, 0, 1, 0, 3, 1, 7, 0};
        int[] second = {5, 1, 2, 2, 3, 0, 1, 1, 0};
        for (int i = 0; i < first.length; i++) {
            Check.due("line(0, " + i + ")", x.line(0, i), first[i]);
            Check.due("line(1, " + i + ")", x.line(1, i), second[i]);
        }
        Check.due("what -1", x.line(0, -1), ReinHall.BAD);
        Check.due("what 9", x.line(0, 9), ReinHall.BAD);
        Check.due("line 2", x.line(2, 0), ReinHall.BAD);
        Check.due("line -1", x.line(-1, 0), ReinHall.BAD);
        Check.due("lines of the machine", x.about(1, 3), 2);
        Check.due("lines of the other", x.about(0, 3), 0);
    }

    private static void led() {
        ReinHall x = Check.of("0 a>0;0 b>0;");
        x.machine(0, 0);
        x.machine(0, 0);
        x.machine(0, 0);
        x.give(0, 2, 2, 5, 100);
        x.give(0, 0, 1, 5, 100);
        x.lend(1, 1, 1, 5, 100);
        x.lend(2, 2, 1, 5, 100);
        x.act(2, 0, 0, 0);
        x.act(2, 1, 0, 0);
        x.withdraw(1);
        Check.due("how many", x.led(0, -1), 3);
        Check.due("its own", x.led(0, 0), 3);
        Check.due("what that was lent", x.led(0, 1), 2);
        Check.due("that which was given", x.led(0, 2), 1);
        Check.due("beyond", x.led(0, 3), ReinHall.BAD);
        Check.due("below", x.led(0, -2), ReinHall.BAD);
        Check.due("given: how many", x.led(1, -1), 1);
        Check.due("given", x.led(1, 0), 0);
        Check.due("given: beyond", x.led(1, 1), ReinHall.BAD);
        Check.due("line 2", x.led(2, -1), ReinHall.BAD);
        Check.due("line -1", x.led(-1, 0), ReinHall.BAD);
    }

    private static void spentAllTheWayUp() {
        ReinHall x = Check.of("0 a>0;");
        x.master(0, 100);
        x.master(1, 100);
        x.master(1, 100);
        x.machine(2, 0);
        x.machine(3, 0);
        x.machine(1, 0);
        for (int m = 0; m < 3; m++) {
            x.give(0, m, 1, 9, 100);
        }
        x.doing(0, 0, 2);
        x.act(0, 0, 0, 0);
        x.doing(0, 0, 3);
        x.act(1, 0, 0, 0);
        x.doing(0, 0, 5);
        x.act(2, 0, 0, 0);
        int[] spent = {10, 10, 2, 3};
        for (int m = 0; m < 4; m++) {
            Check.due("budget(" + m + ", 2)", x.budget(m, 2), spent[m]);
        }
        x.limit(1, 12);
        x.limit(2, 1000);
        Check.due("one above is beyond its limit", x.act(0, 0, 0, 0), -14);
        x.doing(0, 0, 2);
        Check.due("just within", x.act(0, 0, 0, 0), 0);
        x.doing(0, 1, 5);
        x.doing(0, 0, 0);
        Check.due("nothing more is spent", x.act(0, 0, 0, 0), 0);
    }
}
