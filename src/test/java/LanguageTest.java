import java.nio.charset.StandardCharsets;
import java.nio.file.Files;
import java.nio.file.Path;
import java.util.HashMap;
import java.util.Map;
import java.util.regex.Matcher;
import java.util.regex.Pattern;

/** Rules of LANGUAGE.md that the source shows; its path is the one argument. */
public final class LanguageTest {
    private static final String[] RULED_OUT = {
        "\\bthrows?\\b", "\\btry\\b", "\\bcatch\\b", "\\bfinally\\b", "\\bsynchronized\\b", "\\bassert\\b",
        "->", "::", "\\bimport\\b", "\\bpackage\\b", "\\bprotected\\b", "\\bvolatile\\b", "\\bnative\\b",
        "\\btransient\\b", "\\bThread\\b", "\\bSystem\\.(?!arraycopy)", "\\bRandom\\b", "Exact\\(",
        "\\bequals\\(", "\\bhashCode\\b", "\\btoString\\b", "@", "\\bstatic\\s*\\{", "\\bvar\\b",
        "\\bObject\\b", "\\bMap\\b", "\\bSet\\b", "\\bNaN\\b", "while\\s*\\(true\\)", "for\\s*\\(;;\\)",
    };

    public static void main(String[] args) throws Exception {
        String path = args.length > 0 ? args[0] : "src/main/java/ReinHall.java";
        String source = new String(Files.readAllBytes(Path.of(path)), StandardCharsets.ISO_8859_1);
        Check.holds("the source has signs 1 to 127 alone", source.chars().allMatch(c -> c > 0 && c < 128));
        String code = bare(source);
        for (String word : RULED_OUT) {
            Check.holds("nothing is like " + word, !Pattern.compile(word).matcher(code).find());
        }
        staticFieldsAreFinal(code);
        methodsAreShort(code);
        onlyConstructorsMake(code);
        callsAreNotDeep(code);
        Check.finish();
    }

    /** The source without comments and without what stands in quotes. */
    private static String bare(String source) {
        return source.replaceAll("(?s)/\\*.*?\\*/", "").replaceAll("//[^\n]*", "")
                .replaceAll("\"[^\"\n]*\"", "\"\"").replaceAll("'[^'\n]*'", "' '");
    }

    private static void staticFieldsAreFinal(String code) {
        Matcher m = Pattern.compile("\\bstatic\\s+(?!final\\b)[^\n(]*[;=]").matcher(code);
        Check.holds("static fields are final", !m.find());
    }

    private static final Pattern HEAD =
            Pattern.compile("^( {4}| {8})(?! )[^=;]*?(\\w+)\\(([^)]*)\\)\\s*\\{\\s*$");

    private static boolean isHead(Matcher m, String line) {
        return m.find() && !line.trim().matches("(if|for|while|switch|else|\\}).*");
    }

    private static void methodsAreShort(String code) {
        String[] lines = code.split("\n", -1);
        int found = 0;
        for (int i = 0; i < lines.length; i++) {
            Matcher m = HEAD.matcher(lines[i]);
            if (!isHead(m, lines[i])) {
                continue;
            }
            found++;
            String end = m.group(1) + "}";
            int last = i;
            while (last < lines.length && !lines[last].equals(end)) {
                last++;
            }
            Check.holds("at most sixty lines from " + lines[i].trim(), last - i < 60);
            int parameters = m.group(3).isBlank() ? 0 : m.group(3).split(",").length;
            Check.holds("at most seven parameters of " + lines[i].trim(), parameters <= 7);
        }
        Check.holds("the methods are found", found > 80);
    }

    /** Rules 8 and 11: no recursion, and calls that go at most eight deep; methods are told apart by name. */
    private static void callsAreNotDeep(String code) {
        Map<String, StringBuilder> bodies = new HashMap<>();
        StringBuilder body = new StringBuilder();
        for (String line : code.split("\n")) {
            Matcher m = HEAD.matcher(line);
            if (isHead(m, line)) {
                body = bodies.computeIfAbsent(m.group(2), k -> new StringBuilder());
            } else {
                body.append(line).append('\n');
            }
        }
        int deepest = 0;
        for (String name : bodies.keySet()) {
            deepest = Math.max(deepest, depth(name, bodies, 1));
        }
        Check.holds("calls go at most eight deep, and not " + deepest, deepest <= 8);
        Check.holds("calls are found: " + deepest, deepest >= 5);
    }

    private static int depth(String name, Map<String, StringBuilder> bodies, int above) {
        int deepest = above;
        Matcher m = Pattern.compile("(\\w+)\\(").matcher(bodies.get(name));
        while (m.find() && above < 20) {
            if (bodies.containsKey(m.group(1))) {
                deepest = Math.max(deepest, depth(m.group(1), bodies, above + 1));
            }
        }
        return deepest;
    }

    /** Rule 12: what is made is made once, by a field's initialiser or in a constructor. */
    private static void onlyConstructorsMake(String code) {
        for (String line : code.split("\n")) {
            if (line.contains("new ")) {
                Check.holds("not made by a call: " + line.trim(),
                        line.contains("private ") || line.trim().startsWith("cells = new int["));
            }
        }
    }
}
