/**
 * Every refusal that is not BAD (RangesTest has those): by itself, beside the same call where it is not
 * refused; where two could be told, the one that goes first; and that a refused call changes nothing.
 */
public final class RefusalsTest {
    private static final int BAD = ReinHall.BAD, STATE = ReinHall.STATE, FULL = ReinHall.FULL;

    public static void main(String[] args) {
        typing();
        worlds();
        mastersAndMachines();
        limits();
        giving();
        lendingWhatDoesNotStand();
        lendingMore();
        lendingFull();
        withdrawing();
        saying();
        acts();
        actsAgainstLimits();
        actsInPairs();
        undoing();
        waiting();
        odd();
        images();
        Check.finish();
    }

    private static void typing() {
        for (int had = 591; had <= 600; had++) {
            String script = "typed " + Scenes.fullText().substring(0, had) + "\n";
            for (int n = 1; n <= 8; n++) {
                if (had + n > 600) {
                    Check.refuses(script, "type 59 " + n, FULL);
                } else {
                    Check.answers(script, "type 59 " + n, had + n);
                }
            }
            Check.answers(script, "type 59 9", BAD);
            Check.answers(script, "type 59 0", BAD);
        }
        Check.answers(Scenes.FULL + "clear\n", "type 59 8", 8);
        Check.answers(Scenes.FULL + "world\n", "type 59 8", 8);
        Check.answers(Scenes.FULL + "clear\ntyped 7\n", "world", -11);
    }

    private static void worlds() {
        String[] faults = {
            "!", "oops", "16 a>1;", "01 a>1;", "7", "7 i>1;", "7 a", "7 a>", "7 a>1", "7 a>1 1;",
            "7 a>1 2 3 4 5;", "7 a>8;7 a>9;", "never", "never;", "goal;", "rest 16;", "goal 1", "bar",
            "bar 1", "bar 1>", "bar 1>2", "bar 1 2;", ";", ">", "a",
            "never 0 1 2 3 4 5 6 7 8 9 10 11 12 13 14 15 0;",
        };
        int[] places = {
            0, 0, 0, 0, 1, 2, 3, 4, 5, 6,
            12, 8, 5, 5, 4, 5, 6, 3,
            5, 6, 7, 6, 0, 0, 0,
            44,
        };
        for (int i = 0; i < faults.length; i++) {
            String ahead = "5 b>6 7;bar 4>5;never 3;goal 2;rest 1;";
            Check.refuses(Scenes.MIDDLE + "clear\ntyped " + ahead + faults[i] + "\n", "world",
                    -10 - ahead.length() - places[i]);
        }
        Check.refuses("typed " + Scenes.ways(60) + "7e>0;\n", "world", -310);
        Check.refuses("typed " + "bar1>0;".repeat(11) + "\n", "world", -80);
        // the text is still there, and may go on
        Check.answers("typed 0 a>1\nworld\ntyped ;\n", "world", 1);
        Check.answers("typed 0 a>1\nworld\ntyped  2\nworld\ntyped ;\nworld\n", "lot 0 0 -1", 2);
        Check.answers("typed x\nworld\nclear\ntyped 0a>1;\n", "world", 1);
        Check.answers("typed 0a>1;\n", "world", 1);
        Check.answers("told 0a>1;1a>0;\n", "world", 0);
    }

    private static void mastersAndMachines() {
        Check.answers("6* master 0 1\n", "master 6 0", 7);
        Check.refuses("7* master 0 1\n", "master 7 0", FULL);
        Check.refuses("7* master 0 1\n", "master 0 1000", FULL);
        Check.refuses("7* master 0 1\n", "master 8 0", BAD);
        Check.refuses("7* master 0 1\n", "master 0 1001", BAD);
        Check.answers("3* machine 0 1\n", "machine 0 15", 3);
        Check.refuses("4* machine 0 1\n", "machine 0 15", FULL);
        Check.refuses("4* machine 0 1\n", "machine 1 15", BAD);
        Check.refuses("4* machine 0 1\n", "machine 0 16", BAD);
        Check.refuses(Scenes.FULL, "master 7 5", FULL);
        Check.refuses(Scenes.FULL, "machine 7 5", FULL);
        Check.answers("keep 0\n7* master 0 1\nback 0\n", "master 0 5", 1);
        Check.answers("keep 0\n4* machine 0 1\nback 0\n", "machine 0 5", 0);
    }

    private static void limits() {
        String script = "told 0 a>0;\nmaster 0 50\nmachine 1 0\ngive 0 0 1 9 9\ndoing 0 0 7\n2* act 0 0 0 0\n";
        for (int master = 0; master < 2; master++) {
            for (int v = 0; v < 14; v += 13) {
                Check.refuses(script, "limit " + master + " " + v, STATE);
            }
            Check.answers(script, "limit " + master + " 14", master == 0 ? 1000 : 50);
            Check.answers(script, "limit " + master + " 15", master == 0 ? 1000 : 50);
            Check.refuses(script, "limit " + master + " -1", BAD);
            Check.refuses(script, "limit " + master + " -2147483648", BAD);
        }
        Check.answers(script + "doing 0 1 4\nundo 0\n", "limit 1 7", 50);
        Check.refuses(script + "doing 0 1 4\nundo 0\n", "limit 1 6", STATE);
        // spent by one below does not bind one beside
        Check.answers(script + "master 0 9\n", "limit 2 0", 9);
    }

    private static void giving() {
        String script = "master 0 5\nmaster 1 5\nmaster 2 5\nmaster 1 5\nmachine 2 0\n";
        for (int master = 0; master < 5; master++) {
            if (master < 3) {
                Check.answers(script, "give " + master + " 0 255 20 100", 0);
            } else {
                Check.refuses(script, "give " + master + " 0 255 20 100", STATE);
                Check.refuses(script, "give " + master + " 0 256 20 100", BAD);
                Check.refuses(script, "give " + master + " 0 255 21 100", BAD);
                Check.refuses(script, "give " + master + " 0 255 20 101", BAD);
            }
        }
        Check.answers(script + "19* give 2 0 1 1 1\n", "give 2 0 1 1 1", 19);
        String full = script + "20* give 2 0 1 1 1\n";
        Check.refuses(full, "give 2 0 1 1 1", FULL);
        Check.refuses(full, "give 0 0 0 1 0", FULL);
        Check.refuses(full, "give 3 0 1 1 1", STATE);
        Check.refuses(full, "give 4 0 1 1 1", STATE);
        Check.refuses(full, "give 5 0 1 1 1", BAD);
        Check.refuses(full, "give 2 1 1 1 1", BAD);
        Check.refuses(full, "give 3 0 1 0 1", BAD);
        // withdrawn ones and those used up are there still
        Check.refuses(full + "withdraw 3\n", "give 2 0 1 1 1", FULL);
    }

    private static final String TWO = "told 0 a>0;0 b>0;0 c>0;0 d>0;\nmaster 0 500\n2* machine 1 0\n"
            + "give 0 0 7 9 40\n";

    private static void lendingWhatDoesNotStand() {
        Check.answers(TWO, "lend 0 1 1 1 1", 1);
        Check.refuses(TWO + "withdraw 0\n", "lend 0 1 1 1 1", STATE);
        Check.answers(TWO + "8* act 0 0 0 0\n", "lend 0 1 1 1 40", 1);
        Check.refuses(TWO + "9* act 0 0 0 0\n", "lend 0 1 1 1 40", STATE);
        Check.answers(TWO + "wait 40\n", "lend 0 1 1 1 40", 1);
        Check.answers(TWO + "wait 40\n", "lend 0 1 1 1 0", 1);
        Check.refuses(TWO + "wait 41\n", "lend 0 1 1 1 40", STATE);
        String lent = TWO + "lend 0 1 7 5 30\n";
        Check.answers(lent, "lend 1 0 7 5 30", 2);
        Check.refuses(lent + "withdraw 0\n", "lend 1 0 1 1 1", STATE);
        Check.refuses(lent + "withdraw 1\n", "lend 1 0 1 1 1", STATE);
        Check.answers(lent + "8* act 0 0 0 0\n", "lend 1 0 1 1 1", 2);
        Check.refuses(lent + "9* act 0 0 0 0\n", "lend 1 0 1 1 1", STATE);
        Check.answers(lent + "4* act 1 0 0 0\n", "lend 1 0 1 1 1", 2);
        Check.refuses(lent + "5* act 1 0 0 0\n", "lend 1 0 1 1 1", STATE);
        Check.refuses(lent + "wait 31\n", "lend 1 0 1 1 1", STATE);
        Check.refuses(TWO + "withdraw 0\n", "lend 0 1 1 0 1", BAD);
    }

    private static void lendingMore() {
        Check.answers(TWO, "lend 0 1 7 9 40", 1);
        Check.answers(TWO, "lend 0 1 0 1 0", 1);
        Check.refuses(TWO, "lend 0 0 7 9 40", STATE);
        Check.refuses(TWO, "lend 0 1 15 9 40", STATE);
        Check.refuses(TWO, "lend 0 1 8 9 40", STATE);
        Check.refuses(TWO, "lend 0 1 128 9 40", STATE);
        Check.refuses(TWO, "lend 0 1 7 10 40", STATE);
        Check.refuses(TWO, "lend 0 1 7 20 40", STATE);
        Check.refuses(TWO, "lend 0 1 7 9 41", STATE);
        Check.refuses(TWO, "lend 0 1 7 9 100", STATE);
        Check.refuses(TWO, "lend 0 0 7 9 101", BAD);
        Check.refuses(TWO, "lend 0 0 256 9 41", BAD);
        Check.refuses(TWO, "lend 0 1 7 21 41", BAD);
        Check.refuses(TWO, "lend 0 2 8 10 41", BAD);
        Check.refuses(TWO, "lend 1 0 8 10 41", BAD);
        Check.answers(TWO + "3* act 0 0 0 0\n", "lend 0 1 7 6 40", 1);
        Check.refuses(TWO + "3* act 0 0 0 0\n", "lend 0 1 7 7 40", STATE);
        // lending alone leaves the uses: all of them may be lent again
        Check.answers(TWO + "lend 0 1 7 9 40\n", "lend 0 1 7 9 40", 2);
        String lent = TWO + "lend 0 1 3 4 30\n";
        Check.answers(lent, "lend 1 0 3 4 30", 2);
        Check.refuses(lent, "lend 1 0 4 4 30", STATE);
        Check.refuses(lent, "lend 1 0 3 5 30", STATE);
        Check.refuses(lent, "lend 1 0 3 4 31", STATE);
        // what is left of the lent one counts, not of the first
        Check.answers(lent + "7* act 0 0 0 0\n", "lend 1 0 3 4 30", 2);
    }

    private static void lendingFull() {
        Check.answers(TWO + "18* give 0 0 1 1 1\n", "lend 0 1 1 1 1", 19);
        String full = TWO + "lend 0 1 3 4 30\n18* give 0 0 1 1 1\n";
        Check.refuses(full, "lend 0 1 7 9 40", FULL);
        Check.refuses(full, "lend 1 0 3 4 30", FULL);
        Check.refuses(full, "lend 1 1 3 4 30", STATE);
        Check.refuses(full, "lend 1 0 4 4 30", STATE);
        Check.refuses(full, "lend 1 0 3 5 30", STATE);
        Check.refuses(full, "lend 1 0 3 4 31", STATE);
        Check.refuses(full + "withdraw 0\n", "lend 1 0 3 4 30", STATE);
        Check.refuses(full + "wait 31\n", "lend 1 0 3 4 30", STATE);
        Check.refuses(full, "lend 20 0 1 1 1", BAD);
        Check.refuses(full, "lend 1 2 1 1 1", BAD);
        Check.refuses(full, "lend 1 1 4 5 101", BAD);
    }

    private static void withdrawing() {
        String lent = TWO + "lend 0 1 3 4 30\nlend 1 0 3 4 30\ngive 0 1 1 1 1\n";
        for (int leave = 0; leave < 4; leave++) {
            Check.answers(lent, "withdraw " + leave, new int[] {3, 2, 1, 1}[leave]);
            Check.refuses(lent + "withdraw " + leave + "\n", "withdraw " + leave, STATE);
        }
        Check.answers(lent + "withdraw 2\n", "withdraw 1", 1);
        Check.answers(lent + "withdraw 2\n", "withdraw 0", 2);
        Check.refuses(lent + "withdraw 1\n", "withdraw 2", STATE);
        Check.refuses(lent + "withdraw 0\n", "withdraw 2", STATE);
        Check.refuses(lent + "withdraw 0\n", "withdraw 4", BAD);
        // one that does not stand may be withdrawn nonetheless
        Check.answers(lent + "wait 50\n", "withdraw 0", 3);
        Check.answers(TWO + "9* act 0 0 0 0\n", "withdraw 0", 1);
    }

    private static void saying() {
        Check.answers("machine 0 0\n8* yes 0\n", "yes 0", 9);
        Check.refuses("machine 0 0\n9* yes 0\n", "yes 0", FULL);
        Check.refuses("machine 0 0\n9* yes 0\n", "yes 1", BAD);
        Check.answers("2* machine 0 0\n9* yes 0\n", "yes 1", 1);
        Check.answers("told 0 a>0;\nmachine 0 0\ngive 0 0 1 1 1\ndoing 0 1 2\n9* yes 0\nact 0 0 0 0\n", "yes 0", 9);
    }

    /** Doings of state 0: a, b to 4 lots, c to one lot that is never, d none; 1 is of rest; 2 is never. */
    private static final String ACTS = "told 0 a>0;0 b>0 1 3 4;0 c>2;3 a>0 1;4 a>0 1 3;1 a>2;2 a>0;never 2;rest 1;\n"
            + "master 0 500\nmachine 1 0\nmachine 1 0\n";

    private static void acts() {
        String given = ACTS + "give 1 0 255 20 100\n";
        Check.answers(given, "act 0 0 0 0", 0);
        Check.answers(given, "act 0 1 3 0", 1);
        Check.refuses(given, "act 0 0 1 0", -11);
        Check.refuses(given, "act 0 0 3 0", -11);
        Check.refuses(given, "act 0 3 0 0", -11);
        Check.answers(given + "act 0 1 2 0\n", "act 0 0 1 0", 0);
        Check.refuses(given + "act 0 1 2 0\n", "act 0 0 2 0", -11);
        Check.answers(given + "act 0 1 3 0\n", "act 0 0 2 0", 0);
        Check.refuses(given + "act 0 1 3 0\n", "act 0 0 3 0", -11);
        // at rest, and nothing is let: guarded, nothing is to be done
        Check.refuses(given + "act 0 1 1 0\n", "act 0 0 0 1", -11);
        Check.answers(given + "act 0 1 1 0\n", "act 0 0 0 0", 0);
        // no way at all
        Check.refuses("told rest 1;\nmachine 0 0\nmachine 0 1\ngive 0 0 1 1 1\n", "act 0 0 0 1", -11);
        Check.refuses("told rest 1;\nmachine 0 0\nmachine 0 1\ngive 0 1 1 1 1\n", "act 1 0 0 1", -11);
        Check.refuses(ACTS, "act 0 0 0 0", -12);
        Check.refuses(ACTS + "give 1 1 255 20 100\n", "act 0 0 0 0", -12);
        Check.refuses(ACTS + "give 1 0 254 20 100\n", "act 0 0 0 0", -12);
        Check.refuses(ACTS + "give 1 0 0 20 100\n", "act 0 0 0 0", -12);
        Check.refuses(given + "withdraw 0\n", "act 0 0 0 0", -12);
        Check.answers(given + "19* act 0 0 0 0\n", "act 0 0 0 0", 0);
        Check.refuses(given + "20* act 0 0 0 0\n", "act 0 0 0 0", -12);
        Check.answers(ACTS + "give 1 0 1 1 0\n", "act 0 0 0 0", 0);
        Check.refuses(ACTS + "give 1 0 1 1 0\nwait 1\n", "act 0 0 0 0", -12);
        Check.answers(given + "wait 50\nwait 50\n", "act 0 0 0 0", 0);
        Check.refuses(given + "wait 50\nwait 50\nact 0 0 0 0\n", "act 0 0 0 0", -12);
        // c is never let: guarded it is a that is done, and a that a leave must have
        Check.answers(ACTS + "give 1 0 1 1 0\n", "act 0 2 0 1", 0);
        Check.refuses(ACTS + "give 1 0 4 1 0\n", "act 0 2 0 1", -12);
        for (int kind = 0; kind < 6; kind++) {
            String asked = given + "doing 0 1 " + kind + "\n";
            if (kind == 2 || kind == 3) {
                Check.refuses(asked, "act 0 0 0 0", -13);
                Check.refuses(asked + "yes 1\n", "act 0 0 0 0", -13);
                Check.answers(asked + "yes 0\n", "act 0 0 0 0", 0);
                Check.refuses(asked + "yes 0\nact 0 0 0 0\n", "act 0 0 0 0", -13);
            } else {
                Check.answers(asked, "act 0 0 0 0", 0);
            }
        }
        String lines = ACTS + "3* give 1 0 255 20 100\n3* give 1 1 255 20 100\n30* act 0 0 0 0\n29* act 1 0 0 0\n";
        Check.answers(lines, "act 1 0 0 0", 0);
        Check.refuses(lines + "act 1 0 0 0\n", "act 1 0 0 0", -15);
        Check.refuses(lines + "act 0 0 0 0\n", "act 1 2 0 1", -15);
    }

    /** What a kind asks of a price of 7. */
    private static final int[] OF_SEVEN = {7, 2, 8, 4, 9, 14};

    private static void actsAgainstLimits() {
        String three = ACTS + "master 1 400\nmachine 2 0\ngive 2 2 255 20 100\ngive 1 0 255 20 100\n9* yes 2\n"
                + "act 0 0 0 0\ndoing 0 0 7\n";
        for (int kind = 0; kind < 6; kind++) {
            String script = three + "doing 0 1 " + kind + "\n";
            for (int master = 0; master < 3; master++) {
                int most = OF_SEVEN[kind] + (master == 2 ? 0 : 1);
                String limit = script + "limit " + master + " ";
                Check.answers(limit + most + "\n", "act 2 0 0 0", 0);
                Check.answers(limit + (most + 1) + "\n", "act 2 0 0 0", 0);
                Check.refuses(limit + (most - 1) + "\n", "act 2 0 0 0", -14);
            }
        }
        Check.answers(ACTS + "give 0 0 1 1 0\nlimit 1 0\ndoing 0 0 0\n", "act 0 0 0 0", 0);
        Check.refuses(ACTS + "give 0 0 1 1 0\nlimit 1 0\n", "act 0 0 0 0", -14);
        // a free doing of 2 asks nothing, one of 3 does
        Check.answers(ACTS + "give 0 0 1 1 0\nlimit 1 0\ndoing 0 1 1\ndoing 0 0 2\n", "act 0 0 0 0", 0);
        Check.refuses(ACTS + "give 0 0 1 1 0\nlimit 1 0\ndoing 0 1 1\ndoing 0 0 3\n", "act 0 0 0 0", -14);
        // a master beside the machine's own does not bind it
        Check.answers(ACTS + "master 0 0\ngive 0 0 1 1 0\n", "act 0 0 0 0", 0);
    }

    /** Each two of the five reasons, and BAD with each: the first is told. */
    private static void actsInPairs() {
        for (int reasons = 0; reasons < 32; reasons++) {
            boolean noWay = (reasons & 1) != 0;
            String script = ACTS
                    + "3* give 1 1 1 20 100\n"
                    + ((reasons & 2) == 0 ? "give 1 0 255 20 100\n" : "give 1 0 0 20 100\n")
                    + ((reasons & 16) == 0 ? "59" : "60") + "* act 1 0 0 0\n"
                    + ((reasons & 4) == 0 ? "yes 0\n" : "yes 1\n")
                    + ((reasons & 8) == 0 ? "" : "limit 1 " + ((reasons & 16) == 0 ? 60 : 61) + "\n")
                    + "doing 0 1 2\ndoing 3 1 3\ndoing 3 0 20\n";
            int first = Integer.numberOfTrailingZeros(reasons);
            String line = noWay ? "act 0 3 0 0" : "act 0 0 0 0";
            if (reasons == 0) {
                Check.answers(script, line, 0);
            } else {
                Check.refuses(script, line, -11 - first);
            }
            Check.refuses(script, line.substring(0, 8) + "4 0", BAD);
            Check.refuses(script, line.substring(0, 8) + "0 2", BAD);
            Check.refuses(script, "act 2 0 0 0", BAD);
            Check.refuses(script, "act 0 8 0 0", BAD);
        }
    }

    private static void undoing() {
        String script = ACTS + "give 1 0 255 20 100\ngive 1 1 255 20 100\n";
        Check.refuses(script + "doing 0 1 4\n", "undo 0", STATE);
        Check.refuses(script + "doing 0 1 4\nact 1 0 0 0\n", "undo 0", STATE);
        for (int kind = 0; kind < 6; kind++) {
            String done = script + "doing 0 1 4\nact 0 0 0 0\ndoing 0 1 " + kind + "\n";
            if (kind == 4) {
                Check.answers(done, "undo 0", 0);
            } else {
                Check.refuses(done, "undo 0", STATE);
            }
        }
        Check.answers(script + "act 0 0 0 0\ndoing 0 1 4\n", "undo 0", 0);
        Check.refuses(script + "doing 0 1 4\n2* act 0 0 0 0\nundo 0\n", "undo 0", STATE);
        // only the latest: one that can't be undone lies over the other
        Check.refuses(script + "doing 0 1 4\nact 0 0 0 0\nact 0 1 0 0\n", "undo 0", STATE);
        Check.answers(script + "doing 0 1 4\nact 0 0 0 0\nact 1 1 0 0\n", "undo 0", 0);
        // guarded: the kind of what was done, not of what was to be
        Check.answers(script + "doing 0 1 4\nact 0 2 0 1\n", "undo 0", 0);
        Check.refuses(script + "doing 2 1 4\nact 0 2 0 1\n", "undo 0", STATE);
        Check.refuses(script + "doing 0 1 4\nact 0 0 0 0\n", "undo 2", BAD);
    }

    private static void waiting() {
        Check.answers("wait 49\n", "wait 50", 99);
        Check.answers("wait 50\n", "wait 50", 100);
        Check.refuses("wait 50\nwait 1\n", "wait 50", STATE);
        Check.answers("wait 50\nwait 1\n", "wait 49", 100);
        Check.answers("wait 50\nwait 49\n", "wait 1", 100);
        Check.refuses("wait 50\nwait 49\n", "wait 2", STATE);
        Check.refuses("wait 50\nwait 50\n", "wait 1", STATE);
        Check.refuses("wait 50\nwait 50\n", "wait 50", STATE);
        Check.refuses("wait 50\nwait 50\n", "wait 51", BAD);
        Check.refuses("wait 50\nwait 50\n", "wait 0", BAD);
        Check.refuses("wait 50\nwait 50\n", "wait 2147483647", BAD);
        String beyond = ACTS + "give 1 0 255 20 100\nwait 50\nwait 50\nact 0 0 0 0\n";
        Check.answers(beyond, "count 6", 101);
        Check.refuses(beyond, "wait 1", STATE);
        Check.answers("keep 0\nwait 50\nwait 50\nback 0\n", "wait 50", 50);
    }

    private static void odd() {
        String script = ACTS + "2* give 1 0 255 20 100\n2* give 1 1 255 20 100\n15* act 0 0 0 0\n14* act 1 1 0 0\n";
        Check.answers(script, "odd 0 0 1", 77558760);
        Check.answers(script + "act 1 1 0 0\n", "odd 0 0 1", 155117520);
        Check.answers(script + "act 1 1 0 0\n", "odd 0 0 0", 1);
        Check.answers(script + "act 1 1 0 0\n", "odd 0 1 0", 155117520);
        String beyond = script + "2* act 1 1 0 0\n";
        for (int what = 0; what < 2; what++) {
            Check.refuses(beyond, "odd 0 0 " + what, STATE);
            Check.refuses(beyond, "odd 1 7 " + what, STATE);
            Check.refuses(beyond, "odd 2 0 " + what, BAD);
            Check.refuses(beyond, "odd 0 8 " + what, BAD);
        }
        Check.refuses(beyond, "odd 0 0 2", BAD);
        Check.answers(script + "act 1 1 0 0\nkeep 0\nact 1 1 0 0\nback 0\n", "odd 0 0 1", 155117520);
    }

    private static void images() {
        Check.refuses(Scenes.NEW, "back 0", STATE);
        Check.refuses(Scenes.NEW, "back 1", STATE);
        Check.refuses("keep 0\n", "back 1", STATE);
        Check.refuses("keep 1\n", "back 0", STATE);
        Check.answers("wait 5\nkeep 0\nwait 2\n", "back 0", 5);
        Check.answers("wait 5\nkeep 1\nwait 2\n", "back 1", 5);
        Check.refuses("keep 0\nback 0\n", "back 1", STATE);
        Check.refuses(Scenes.MIDDLE, "back 1", STATE);
        Check.refuses(Scenes.NEW, "back 2", BAD);
        Check.refuses(Scenes.NEW, "keep 2", BAD);
    }
}
