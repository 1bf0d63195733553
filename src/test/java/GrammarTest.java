import java.util.List;

/**
 * The text of a world: which tokens may stand at which place, every byte at every place, and the
 * numbers that the text is bound by, one below, at and above each.
 */
public final class GrammarTest {
    /** Texts of whole tokens behind each of which something is to come, and the sorts that may: see SORTS. */
    private static final String[][] PLACES = {
        {"", "nwb"}, {"0 a>1;", "nwb"}, {"goal 1;", "nwb"}, {"bar 1>2;", "nwb"},
        {"9", "d"}, {"9 a", ">"}, {"9 a>", "n"}, {"9 a>1", "n;"}, {"9 a>1 2", "n;"}, {"9 a>1 2 4", "n;"},
        {"9 a>1 2 4 5", ";"},
        {"never", "n"}, {"goal", "n"}, {"rest", "n"}, {"never 1", "n;"}, {"goal 1", "n;"}, {"rest 1", "n;"},
        {"never 0 1 2 3 4 5 6 7 8 9 10 11 12 13 14", "n;"}, {"goal 0 1 2 3 4 5 6 7 8 9 10 11 12 13 14", "n;"},
        {"rest 0 1 2 3 4 5 6 7 8 9 10 11 12 13 14", "n;"},
        {"never 0 1 2 3 4 5 6 7 8 9 10 11 12 13 14 15", ";"}, {"goal 9 9 9 9 9 9 9 9 9 9 9 9 9 9 9 9", ";"},
        {"rest 0 1 2 3 4 5 6 7 8 9 10 11 12 13 14 15", ";"},
        {"bar", "n"}, {"bar 1", ">"}, {"bar 1>", "n"}, {"bar 1>2", ";"},
        {Scenes.ways(59), "nwb"}, {Scenes.ways(60), "wb"}, {"bar 1>2;".repeat(9), "nwb"}, {"bar 1>2;".repeat(10), "nw"},
        {Scenes.ways(60) + "bar1>0;".repeat(10), "w"},
    };

    /** Tokens and their sorts: n a number, d a doing, w a word with a row, b bar, > and ; ; x none at all. */
    private static final String[][] TOKENS = {
        {"3", "n"}, {"0", "n"}, {"15", "n"}, {"a", "d"}, {"h", "d"}, {"never", "w"}, {"goal", "w"}, {"rest", "w"},
        {"bar", "b"}, {">", ">"}, {";", ";"}, {"i", "x"}, {"z", "x"}, {"ab", "x"}, {"hh", "x"}, {"ne", "x"},
        {"nevera", "x"}, {"agoal", "x"}, {"resting", "x"}, {"ba", "x"}, {"barb", "x"}, {"gaol", "x"}, {"16", "x"},
        {"00", "x"}, {"01", "x"}, {"015", "x"}, {"000", "x"}, {"20", "x"}, {"99", "x"}, {"100", "x"}, {"155", "x"},
        {"256", "x"}, {"65536", "x"}, {"2147483647", "x"}, {"2147483648", "x"}, {"4294967296", "x"},
        {"4294967299", "x"}, {"9223372036854775807", "x"}, {"9223372036854775808", "x"},
        {"18446744073709551616", "x"}, {"18446744073709551619", "x"}, {"-1", "x"}, {"+1", "x"}, {".", "x"},
        {"=", "x"}, {",", "x"}, {"<", "x"}, {":", "x"}, {"/", "x"}, {"`", "x"}, {"{", "x"}, {"A", "x"}, {"H", "x"},
        {"Never", "x"}, {"GOAL", "x"}, {"\0", "x"}, {"\t", "x"}, {"\n", "x"}, {"\r", "x"}, {"!", "x"}, {"\37", "x"},
        {"\177", "x"}, {"\200", "x"}, {"\240", "x"}, {"\260", "x"}, {"\341", "x"}, {"\377", "x"},
    };

    public static void main(String[] args) {
        for (String[] place : PLACES) {
            for (String[] token : TOKENS) {
                stands(place[0], place[1], token[0], token[1]);
            }
            endsThere(place[0], place[1]);
            everyByte(place[0], place[1]);
        }
        bytesBehindTokens();
        lots();
        ways();
        rowsAndBars();
        lengths();
        bytesOfNumbers();
        Check.finish();
    }

    private static long world(String text) {
        Hall x = new Hall().saysAll(Hall.typing(text));
        long told = x.says("world");
        Check.due("bytes left of \"" + text + "\"", x.says("count", 7), told >= 0 ? 0 : text.length());
        return told;
    }

    private static void tells(String text, long want) {
        Check.due("world() of \"" + text + "\"", world(text), want);
    }

    /** How many ways are told by a text of whole items. */
    private static long waysIn(String text) {
        return text.chars().filter(c -> c == '>').count() - text.split("bar", -1).length + 1;
    }

    private static boolean isLotToldTwice(String place, String token) {
        return place.startsWith("9 a>") && List.of(place.substring(4).trim().split(" +")).contains(token);
    }

    /** A token behind a place: a fault at the token, or the text ends too early, or it is a world. */
    private static void stands(String place, String may, String token, String sort) {
        boolean fits = may.contains(sort) && !isLotToldTwice(place, token);
        for (String gap : new String[] {"", " ", "   "}) {
            if (gap.isEmpty() && !place.isEmpty() && joins(place.charAt(place.length() - 1), token.charAt(0))) {
                continue;
            }
            String text = place + gap + token;
            if (!fits) {
                tells(text, -10 - (place + gap).length());
                tells(text + " ; 0 a>1;", -10 - (place + gap).length());
            } else if (sort.equals(";")) {
                tells(text, waysIn(place));
                tells(text + "  ", waysIn(place));
            } else {
                tells(text, -10 - text.length());
                tells(text + "  ", -10 - text.length() - 2);
            }
        }
    }

    private static boolean joins(char a, char b) {
        return Character.isDigit(a) && Character.isDigit(b) || a >= 'a' && a <= 'z' && b >= 'a' && b <= 'z';
    }

    private static void endsThere(String place, String may) {
        boolean whole = place.isEmpty() || place.endsWith(";");
        tells(place, whole ? waysIn(place) : -10 - place.length());
        tells(place + " ", whole ? waysIn(place) : -10 - place.length() - 1);
    }

    private static void everyByte(String place, String may) {
        for (char b = 0; b < 256; b++) {
            String sort = b == '>' || b == ';' ? String.valueOf(b) : b >= '0' && b <= '9' ? "n"
                    : b >= 'a' && b <= 'h' ? "d" : "x";
            if (b != ' ' && !(place.isEmpty() && sort.equals("x"))) {
                stands(place + " ", may, String.valueOf(b), sort);
            }
        }
    }

    /** What a byte does that comes right behind a number, a doing or a word. */
    private static void bytesBehindTokens() {
        for (char b = 0; b < 256; b++) {
            boolean letter = b >= 'a' && b <= 'z';
            if (b >= '0' && b <= '9') {
                tells("0a>1" + b + ";", b <= '5' ? 1 : -13);
                tells("1" + b + "a>1;", b <= '5' ? 1 : -10);
                tells("0" + b + "a>1;", -10);
            } else {
                tells("0a>1" + b + ";", b == ' ' ? 1 : b == ';' ? -15 : -14);
                tells("0" + b + "a>1;", b == ' ' ? 1 : -11);
                tells("0a" + b + ">1;", b == ' ' ? 1 : letter ? -11 : b == '>' ? -13 : -12);
                tells("goal" + b + "1;", b == ' ' ? 0 : letter ? -10 : -14);
                tells("bar1>2" + b + ";", b == ' ' ? 0 : b == ';' ? -17 : -16);
            }
        }
    }

    private static void lots() {
        tells("0 a>;", -14);
        tells("0 a>5;", 1);
        tells("0 a>5 4;", 1);
        tells("0 a>5 4 3;", 1);
        tells("0 a>5 4 3 2;", 1);
        tells("0 a>5 4 3 2 1;", -22);
        tells("0 a>5 4 3 2 5;", -22);
        tells("0 a>5 5;", -16);
        tells("0 a>5 4 5;", -18);
        tells("0 a>5 4 4;", -18);
        tells("0 a>5 4 3 5;", -20);
        tells("0 a>5 4 3 4;", -20);
        tells("0 a>5 4 3 3;", -20);
        tells("0 a>0;", 1);
        tells("15 h>15;", 1);
        // lots of other ways are others
        tells("0 a>5 4;0 b>5 4;1 a>4 5;", 3);
        Hall x = Hall.of("told 15 h>15 0 7 8;\n");
        Check.due("four lots", x.says("lot", 15, 7, -1), 4);
        Check.due("the last of four", x.says("lot", 15, 7, 3), 8);
    }

    private static void ways() {
        tells("", 0);
        tells(Scenes.ways(1), 1);
        tells(Scenes.ways(59), 59);
        tells(Scenes.ways(60), 60);
        tells(Scenes.ways(61), -310);
        tells(Scenes.ways(59) + "7d>0;", 60);
        tells(Scenes.ways(60) + "rest 1;never 1;goal 1;bar 1>1;", 60);
        // the 61st is told at its state, whatever else is wrong with it
        tells(Scenes.ways(60) + "0 a>0;", -310);
        tells(Scenes.ways(60) + "16 a>0;", -310);
        tells(Scenes.ways(60) + "goal 1;15 z", -317);
        // one of a state and doing: the second is told at its doing
        tells("3 c>1;3 c>1;", -18);
        tells("3 c>1;4 c>1;3 d>1;3 c", -30);
        tells(Scenes.ways(59) + "0 a>0;", -307);
        tells(Scenes.ways(59) + "7 c>0;", -307);
        tells("15 h>1;15 h>2;", -20);
        tells("0 h>1;1 a>1;", 2);
    }

    private static void rowsAndBars() {
        for (String word : new String[] {"never", "goal", "rest"}) {
            int n = word.length();
            tells(word + ";", -10 - n);
            tells(word + " 0;", 0);
            tells(word + " 15;", 0);
            tells(word + " 3".repeat(15) + ";", 0);
            tells(word + " 3".repeat(16) + ";", 0);
            tells(word + " 3".repeat(17) + ";", -10 - n - 33);
            tells((word + " 3".repeat(16) + ";").repeat(2), 0);
            Hall x = Hall.of("told " + word + " 0;" + word + " 15 4;" + word + " 0;\n");
            int set = word.equals("never") ? 0 : word.equals("goal") ? 1 : 2;
            for (int what = 0; what < 3; what++) {
                Check.due("set(" + what + ") of " + word, x.says("set", what), what == set ? 1 << 15 | 17 : 0);
            }
            Hall all = Hall.of("told " + word + " 0 1 2 3 4 5 6 7 8 9 10 11 12 13 14 15;\n");
            Check.due("all of " + word, all.says("set", set), 65535);
        }
        for (int bars = 0; bars <= 10; bars++) {
            tells("bar 1>2;".repeat(bars), 0);
            Check.due("count(1)", Hall.of("told " + "bar 0>15;".repeat(bars) + "\n").says("count", 1), bars);
        }
        tells("bar 1>2;".repeat(11), -90);
        tells("bar 1>2;".repeat(10) + "0 a>1;bar", -96);
        tells("bar 15>15;bar 0>0;", 0);
    }

    private static void lengths() {
        Check.due("the full text has 600 bytes", Scenes.fullText().length(), 600);
        tells(Scenes.fullText(), 2);
        tells(Scenes.fullText().substring(0, 599), -609);
        tells(" ".repeat(594) + "0 a>1;", 1);
        tells(" ".repeat(595) + "0 a>1", -610);
        tells(" ".repeat(600), 0);
        tells(" ".repeat(599) + "!", -609);
        tells(" ".repeat(599) + "7", -610);
        tells(" ".repeat(596) + "goal", -610);
        tells("goal 1" + "5".repeat(594), -15);
        tells("goal 1" + ";".repeat(594), -17);
        // one byte: 0 .. 9 are whole numbers
        for (char b = '0'; b <= '9'; b++) {
            tells(String.valueOf(b), -11);
        }
    }

    /** The lowest bytes of the least and the greatest long and of others, the highest of them first. */
    private static void bytesOfNumbers() {
        for (int n = 1; n <= 8; n++) {
            long v = 0;
            for (int i = 8 - n; i < 8; i++) {
                v = v << 8 | " 0a>1 2;".charAt(i);
            }
            String ahead = " 0a>1 2;".substring(0, 8 - n);
            for (long above : new long[] {0, -1, Long.MIN_VALUE, Long.MAX_VALUE}) {
                long low = n == 8 ? -1 : (1L << 8 * n) - 1;
                Hall x = new Hall().saysAll(Hall.typing(ahead));
                Check.due("type of " + n, x.says("type", above & ~low | v, n), 8);
                Check.due("world", x.says("world"), 1);
                Check.due("lot 1", x.says("lot", 0, 0, 1), 2);
            }
            for (long v2 : new long[] {Long.MIN_VALUE, Long.MAX_VALUE, -1, 0}) {
                Hall x = new Hall();
                Check.due("type of " + v2, x.says("type", v2, n), n);
                Check.due("a byte that begins none", x.says("world"), -10);
                Check.due("clear", x.says("clear"), n);
            }
        }
        Hall x = new Hall();
        x.says("type", Long.MAX_VALUE, 8);
        Check.due("bytes of the greatest: 127 first", x.says("world"), -10);
        x.says("clear");
        // 0x20 .. 20 3B: blanks, then the end of nothing
        x.says("type", 0x202020202020203BL, 8);
        Check.due("the lowest byte comes last", x.says("world"), -17);
    }
}
