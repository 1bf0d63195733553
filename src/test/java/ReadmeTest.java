import java.lang.reflect.Method;
import java.net.URL;
import java.net.URLClassLoader;
import java.nio.charset.StandardCharsets;
import java.nio.file.Files;
import java.nio.file.Path;
import java.util.ArrayList;
import java.util.Comparator;
import java.util.List;
import java.util.regex.Matcher;
import java.util.regex.Pattern;
import java.util.stream.Stream;
import javax.tools.JavaCompiler;
import javax.tools.ToolProvider;

/**
 * The examples of README.md answer as it says. They are compiled as they stand; each line but that which
 * makes the object has its answer behind it: "x.set(4); // 65535: ..".
 */
public final class ReadmeTest {
    private static final String MADE = "ReinHall x = new ReinHall();";
    private static final Pattern LINE =
            Pattern.compile("((?:tell\\(x, |x\\.\\w+\\().*\\)); +// (-?\\d+)(?:: \\S.*)?");

    private final StringBuilder source = new StringBuilder();
    private final List<String> calls = new ArrayList<>();
    private final List<Long> want = new ArrayList<>();

    public static void main(String[] args) throws Exception {
        String page = Files.readString(Path.of("README.md"), StandardCharsets.US_ASCII);
        allCallsAreTold(page);
        ReadmeTest examples = new ReadmeTest();
        examples.read(page);
        examples.compare(answers(examples.source.toString()));
        Check.finish();
    }

    private static void allCallsAreTold(String page) {
        for (String name : Hall.names()) {
            Check.holds("README.md has a row of " + name,
                    Pattern.compile("(?m)^\\|[^|]*`" + name + "\\(").matcher(page).find());
            Check.holds("README.md has an example of " + name, page.contains("\nx." + name + "("));
        }
    }

    private void read(String page) {
        int runs = 0;
        StringBuilder helpers = new StringBuilder();
        Matcher m = Pattern.compile("(?s)```java\n(.*?)```").matcher(page);
        source.append("public final class ReadmeRuns {\npublic static void run(java.util.List<Long> got) {\n");
        while (m.find()) {
            if (m.group(1).startsWith("static ")) {
                helpers.append(m.group(1));
            } else {
                runs++;
                readExample(m.group(1));
            }
        }
        source.append("}\n").append(helpers).append("}\n");
        Check.holds("five examples at least, and not " + runs, runs >= 5);
        Check.holds("a hundred answers at least, and not " + want.size(), want.size() >= 100);
    }

    private void readExample(String block) {
        Check.holds("an example makes its object first: " + block, block.startsWith(MADE + "\n"));
        source.append("{\n").append(MADE).append('\n');
        for (String line : block.substring(block.indexOf('\n') + 1).split("\n")) {
            Matcher m = LINE.matcher(line);
            boolean hasAnswer = m.matches();
            Check.holds("a call with its answer: " + line, hasAnswer);
            if (hasAnswer) {
                calls.add(m.group(1));
                want.add(Long.parseLong(m.group(2)));
                source.append("got.add((long) ").append(m.group(1)).append(");\n");
            }
        }
        source.append("}\n");
    }

    private void compare(List<Long> got) {
        Check.due("answers of all examples", got.size(), want.size());
        for (int i = 0; i < got.size() && i < want.size(); i++) {
            Check.due("README.md: " + calls.get(i), got.get(i), want.get(i));
        }
    }

    /** What the examples answer, compiled in a place of their own. */
    private static List<Long> answers(String source) throws Exception {
        List<Long> got = new ArrayList<>();
        Path out = Files.createTempDirectory("readme");
        try {
            Path file = out.resolve("ReadmeRuns.java");
            Files.writeString(file, source);
            JavaCompiler compiler = ToolProvider.getSystemJavaCompiler();
            int code = compiler.run(null, System.out, System.out, "-d", out.toString(),
                    "-cp", System.getProperty("java.class.path"), file.toString());
            Check.due("compiling the examples", code, 0);
            if (code == 0) {
                run(out, got);
            }
        } finally {
            remove(out);
        }
        return got;
    }

    private static void run(Path out, List<Long> got) throws Exception {
        URL[] places = {out.toUri().toURL()};
        try (URLClassLoader loader = new URLClassLoader(places, ReadmeTest.class.getClassLoader())) {
            Method m = loader.loadClass("ReadmeRuns").getMethod("run", List.class);
            m.invoke(null, got);
        }
    }

    private static void remove(Path out) throws Exception {
        List<Path> paths;
        try (Stream<Path> all = Files.walk(out)) {
            paths = all.sorted(Comparator.reverseOrder()).toList();
        }
        for (Path path : paths) {
            Files.delete(path);
        }
    }
}
