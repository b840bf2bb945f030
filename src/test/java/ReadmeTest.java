import java.io.IOException;
import java.net.URI;
import java.nio.file.Files;
import java.nio.file.Path;
import java.util.List;
import java.util.Map;
import java.util.TreeMap;
import java.util.regex.Matcher;
import java.util.regex.Pattern;
import javax.tools.JavaCompiler;
import javax.tools.JavaFileObject;
import javax.tools.SimpleJavaFileObject;
import javax.tools.ToolProvider;

/** README.md: its example answers what it says, the codes have the numbers that it says, its tests are there. */
public final class ReadmeTest {
    private static final Check CHECK = new Check("README.md");
    private static final String NEW_DESK = "TrialDesk desk = new TrialDesk();";
    private static final Pattern STEP = Pattern.compile("desk\\.(\\w+)\\((.*)\\);\\s+// (?:(-?\\d+|[A-Z_]+): )?.+");
    private static final Pattern CODE = Pattern.compile("(?m)^- `([A-Z_]+)` \\((-\\d+)\\): ");
    private static final Pattern TEST = Pattern.compile("`(\\w+Test)`");

    public static void main(String[] args) throws IOException {
        String readme = Files.readString(Path.of("README.md"));
        String example = example(readme);
        CHECK.script("the example", script(example));
        compiles(example);
        codes(readme);
        tests(readme);
        CHECK.end();
    }

    private static String example(String readme) {
        String fence = "```java\n";
        int from = readme.indexOf(fence);
        int to = readme.indexOf("```", from + fence.length());
        CHECK.due("there is one example", from >= 0 && to > from && readme.indexOf(fence, to) < 0, true);
        return readme.substring(from + fence.length(), to);
    }

    /** The example as lines of a script; a call without an answer behind // must be one that has none. */
    private static String script(String example) {
        StringBuilder script = new StringBuilder();
        boolean tearing = false;
        String[] lines = example.split("\n");
        CHECK.due("the first line", lines[0], NEW_DESK);
        for (String line : List.of(lines).subList(1, lines.length)) {
            Matcher step = STEP.matcher(line);
            if (!step.matches()) {
                CHECK.due("the line " + line, "no call with a comment", "a call with a comment");
                continue;
            }
            String call = (step.group(1) + " " + step.group(2).replace(",", "").replace("L", "")).trim();
            String due = step.group(3) == null ? "done" : step.group(3);
            // The first DOWN behind a tear is the torn call's own.
            boolean torn = tearing && due.equals("DOWN");
            script.append(call).append(" = ").append(torn ? "torn" : due).append('\n');
            tearing = call.equals("tear") || tearing && !torn;
        }
        CHECK.due("the example has calls", script.length() > 0, true);
        return script.toString();
    }

    private static void compiles(String example) throws IOException {
        String source = "final class Example { static void use() {\n" + example + "} }\n";
        JavaFileObject file = new SimpleJavaFileObject(URI.create("string:///Example.java"), JavaFileObject.Kind.SOURCE) {
            @Override
            public CharSequence getCharContent(boolean ignoreEncodingErrors) {
                return source;
            }
        };
        JavaCompiler compiler = ToolProvider.getSystemJavaCompiler();
        Path classes = Files.createTempDirectory("readme");
        List<String> options = List.of("-d", classes.toString(), "-cp", System.getProperty("java.class.path"));
        CHECK.due("the example compiles", compiler.getTask(null, null, null, options, null, List.of(file)).call(), true);
        Files.deleteIfExists(classes.resolve("Example.class"));
        Files.delete(classes);
    }

    private static void codes(String readme) {
        Map<String, String> got = new TreeMap<>();
        Matcher code = CODE.matcher(readme);
        while (code.find()) {
            got.put(code.group(1), code.group(2));
        }
        Map<String, String> want = new TreeMap<>(Map.of("NONE", "" + TrialDesk.NONE, "DOWN", "" + TrialDesk.DOWN,
                "OPENED", "" + TrialDesk.OPENED, "CLOSED", "" + TrialDesk.CLOSED, "KNOWN", "" + TrialDesk.KNOWN,
                "NO_KIT", "" + TrialDesk.NO_KIT, "NO_BLOCK", "" + TrialDesk.NO_BLOCK, "HELD", "" + TrialDesk.HELD));
        CHECK.due("the codes", got, want);
    }

    private static void tests(String readme) {
        Matcher test = TEST.matcher(readme);
        while (test.find()) {
            boolean there = Files.exists(Path.of("src/test/java", test.group(1) + ".java"));
            CHECK.due("whether there is a " + test.group(1), there, true);
        }
    }
}
