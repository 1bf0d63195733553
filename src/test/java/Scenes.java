/** Scripts that the tests begin with: nothing done yet, something of everything, and all that there is room for. */
final class Scenes {
    static final String NEW = "";

    /**
     * Masters 0 over 1 over 2, and 3 under 0; machines 0 of 2, 1 of 1, 2 of 3 (at rest, without leaves);
     * leaves 0 given, 1 given, 2 lent of 1, 3 lent of 2, 4 given and withdrawn; five lines, one undone;
     * an image from ahead of all that; a text that is not ready.
     */
    static final String MIDDLE = """
            told 0 a>1 2;0 b>3;0 c>0;1 a>0;2 b>0 1;2 d>9;3 c>2;3 a>9;9 a>0;8 a>9;never 9;goal 3;rest 5;bar 0>2;bar 3>0;
            keep 0
            master 0 500
            master 1 40
            master 0 20
            machine 2 0
            machine 1 0
            machine 3 5
            doing 0 0 2
            doing 1 0 3
            doing 1 1 4
            doing 2 0 4
            doing 2 1 2
            give 2 0 7 6 90
            give 0 1 255 18 99
            lend 1 0 3 4 50
            lend 2 1 1 2 40
            give 1 0 255 1 9
            withdraw 4
            2* yes 0
            yes 1
            act 0 1 0 0
            act 1 0 0 0
            act 1 0 0 0
            act 0 2 0 0
            act 1 1 0 1
            undo 1
            wait 3
            wish 0 7
            wish 2 48
            due 3 1
            due 5 2
            typed 1 a>1;goal 2;
            """;

    /** The text of FULL's world: 60 ways, 10 bars. */
    static final String FULL_WORLD = ways(60) + "bar1>0;".repeat(10) + "goal1;rest2;";

    /**
     * All eight masters, one below the other, four machines, 20 leaves, 60 lines, 9 yes, 600 bytes, two
     * images; the tick is 100.
     */
    static final String FULL = "told " + FULL_WORLD + "\n" + masters() + """
            machine 7 0
            machine 6 0
            machine 5 0
            machine 0 0
            wait 40
            """ + leaves() + "9* yes 2\n15* act 0 0 0 0\nkeep 0\n15* act 1 0 0 1\n15* act 2 0 0 0\nkeep 1\n"
            + "15* act 3 0 0 0\n" + wishes() + "due 0 0\ndue 3 7\ntyped " + fullText() + "\n";

    private Scenes() { }

    /** So many ways, each back to 0: of 0, by all doings, then of 1, and so on. */
    static String ways(int n) {
        StringBuilder text = new StringBuilder();
        for (int i = 0; i < n; i++) {
            text.append(i / 8).append((char) ('a' + i % 8)).append(">0;");
        }
        return text.toString();
    }

    /** A text of 600 bytes that is a world: two ways far apart. */
    static String fullText() {
        return "14 h>13 12;" + " ".repeat(578) + "13 g>14 15;";
    }

    private static String masters() {
        StringBuilder script = new StringBuilder();
        for (int i = 0; i < 7; i++) {
            script.append("master ").append(i).append(" ").append(1000 - i).append("\n");
        }
        return script.toString();
    }

    private static String leaves() {
        StringBuilder script = new StringBuilder();
        for (int i = 0; i < 16; i++) {
            script.append("give 0 ").append(i % 4).append(" 255 20 100\n");
        }
        for (int i = 0; i < 4; i++) {
            script.append("lend ").append(i).append(" ").append((i + 1) % 4).append(" 127 19 100\n");
        }
        return script.toString();
    }

    private static String wishes() {
        StringBuilder script = new StringBuilder();
        for (int i = 0; i < 8; i++) {
            script.append("wish ").append(i).append(" ").append(1 << i | 1).append("\n");
        }
        return script.toString();
    }
}
