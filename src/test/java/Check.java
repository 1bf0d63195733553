/** What the project's tests share: comparing answers, telling worlds, ending with the right exit code. */
final class Check {
    private static int checks = 0;
    private static int wrong = 0;

    private Check() { }

    static void due(String call, long got, long want) {
        checks++;
        if (got != want) {
            wrong++;
            System.out.println(call + " answered " + got + ", due is " + want);
        }
    }

    static void holds(String what, boolean does) {
        checks++;
        if (!does) {
            wrong++;
            System.out.println("does not hold: " + what);
        }
    }

    /** Types a text, eight bytes at a time. */
    static void types(ReinHall x, String text) {
        for (int i = 0; i < text.length(); i += 8) {
            int n = Math.min(8, text.length() - i);
            long v = 0;
            for (int k = 0; k < n; k++) {
                v = v << 8 | text.charAt(i + k) & 0xFF;
            }
            due("type of \"" + text.substring(i, i + n) + "\"", x.type(v, n), x.count(7));
        }
    }

    /** A new object with a world that has no fault. */
    static ReinHall of(String text) {
        ReinHall x = new ReinHall();
        types(x, text);
        holds("\"" + text + "\" is a world", x.world() >= 0);
        return x;
    }

    /** What world() answers to a text on a new object. */
    static void tells(String text, int want) {
        ReinHall x = new ReinHall();
        types(x, text);
        due("world() of \"" + text + "\"", x.world(), want);
        due("bytes left of \"" + text + "\"", x.count(7), want <= -10 ? text.length() : 0);
    }

    static void finish() {
        System.out.println("        " + checks + " checks, " + wrong + " wrong");
        if (wrong != 0 || checks == 0) {
            System.exit(1);
        }
    }
}
