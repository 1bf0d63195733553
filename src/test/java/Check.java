/** What the project's tests share: comparing answers, telling worlds, ending with the right exit code. */
final class Check {
    private static int checks = 0;
    private static int wrong = 0;

    private Check() { }

    static void due(String call, long got, long want) {
        checks++;
        if (got != want) {
            wrong++;
            System.out.println(call + " answered " + got + ", due is " + want);
        }
    }

    static void holds(String what, boolean does) {
        checks++;
        if (!does) {
            wrong++;
            System.out.println("does not hold: " + what);
        }
    }

    /** Types a text, eight bytes at a time. */
    static void types(ReinHall x, String text) {
        for (int i = 0; i < text.length(); i += 8) {
            int n = Math.min(8, text.length() - i);
            long v = 0;
            for (int k = 0; k < n; k++) {
                v = v << 8 | text.charAt(i + k) & 0xFF;
            }
            due("type of \"" + text.substring(i, i + n) + "\"", x.type(v, n), x.count(7));
        }
    }

    /** A new object with a world that has no fault. */
    static ReinHall of(String text) {
        ReinHall x = new ReinHall();
        types(x, text);
        holds("\"" + text + "\" is a world", x.world() >= 0);
        return x;
    }

    /** What world() answers to a text on a new object. */
    static void tells(String text, int want) {
        ReinHall x = new ReinHall();
        types(x, text);
        due("world() of \"" + text + "\"", x.world(), want);
        due("bytes left of \"" + text + "\"", x.count(7), want <= -10 ? text.length() : 0);
    }

    /** What a call answers on a new object after a script (see Hall). */
    static void answers(String script, String line, long want) {
        due(line + " after .." + end(script), Hall.of(script).says(Hall.call(line)), want);
    }

    /** A call is refused after a script, and nothing changes. */
    static void refuses(String script, String line, long want) {
        answers(script, line, want);
        holds(line + " changes nothing after .." + end(script), Watch.changesNothing(script, Hall.call(line)));
    }

    private static String end(String script) {
        return script.substring(Math.max(0, script.length() - 60)).replace('\n', ',');
    }

    static void finish() {
        System.out.println("        " + checks + " checks, " + wrong + " wrong");
        if (wrong != 0 || checks == 0) {
            System.exit(1);
        }
    }
}
