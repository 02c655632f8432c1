import java.io.File;
import java.io.IOException;
import java.nio.charset.StandardCharsets;
import java.nio.file.Files;
import java.nio.file.Path;
import java.util.ArrayList;
import java.util.List;
import java.util.Set;
import java.util.TreeSet;
import java.util.regex.Matcher;
import java.util.regex.Pattern;
import java.util.stream.Stream;
import javax.tools.ToolProvider;

/**
 * What README.md says: its Java is compiled as it stands, each call is made, and what stands behind
 * // is what it answers; all tests are named, and no others.
 */
public final class ReadmeTest {
    /** A declaration or nothing, a call, and the answer that is said to come. */
    private static final Pattern ROW = Pattern.compile(
            "(?:(int|long|boolean) (\\w+) = )?((?:x\\.\\w+|show)\\(.*\\)); *// (NONE|true|false|-?\\d+)\\b.*");
    private static final String NEW_OBJECT = "ShownNot x = new ShownNot();";
    private static final String NAME = "CallsOfReadme";
    private static final int MOST_CALLS = 512;

    private final StringBuilder methods = new StringBuilder();
    private final StringBuilder calls = new StringBuilder();
    private int made = 0;

    private static List<String> blocks(String page) {
        List<String> found = new ArrayList<>();
        Matcher block = Pattern.compile("(?s)```java\n(.*?)```").matcher(page);
        while (block.find()) {
            found.add(block.group(1));
        }
        return found;
    }

    private void take(String block) {
        if (block.startsWith("static ")) {
            methods.append(block);
            return;
        }
        calls.append("{\n");
        for (String line : block.split("\n")) {
            calls.append(line.equals(NEW_OBJECT) ? line : withCheck(line)).append('\n');
        }
        calls.append("}\n");
    }

    private String withCheck(String line) {
        Matcher row = ROW.matcher(line);
        if (!row.matches()) {
            Check.due("README.md says what it answers: " + line, false, true);
            return "";
        }
        made++;
        String due = row.group(4).equals("NONE") ? "-1" : row.group(4);
        String told = "\"README.md: " + row.group(3).replace("\"", "'") + "\"";
        if (row.group(2) == null) {
            return "Check.due(" + told + ", " + row.group(3) + ", " + due + ");";
        }
        return row.group(1) + " " + row.group(2) + " = " + row.group(3) + ";\nCheck.due(" + told + ", " + row.group(2)
                + ", " + due + ");";
    }

    /** Compiled beside the tests, as what Check offers is open there alone. */
    private void run() throws IOException, ReflectiveOperationException {
        Path folder = Path.of(System.getProperty("java.class.path").split(File.pathSeparator)[0]);
        Path source = folder.resolve(NAME + ".java");
        Files.writeString(source, "final class " + NAME + " {\n" + methods + "static void make() {\n" + calls + "}\n}\n");
        int code = ToolProvider.getSystemJavaCompiler().run(null, System.out, System.out, "-d", folder.toString(), "-cp",
                folder.toString(), source.toString());
        Check.due("the Java of README.md compiles", code, 0);
        if (code == 0) {
            Class.forName(NAME).getDeclaredMethod("make").invoke(null);
        }
        Check.due("README.md makes calls", made > 0, true);
        Check.due("an object of README.md is called 512 times at most", made <= MOST_CALLS, true);
    }

    private static Set<String> found(String page, String pattern) {
        Set<String> names = new TreeSet<>();
        Matcher name = Pattern.compile(pattern).matcher(page);
        while (name.find()) {
            names.add(name.group(1));
        }
        return names;
    }

    private static Set<String> files(Path folder, String end) throws IOException {
        Set<String> names = new TreeSet<>();
        try (Stream<Path> all = Files.list(folder)) {
            all.map(file -> file.getFileName().toString()).filter(name -> name.endsWith(end)).forEach(names::add);
        }
        return names;
    }

    private static void namesTests(String page, Path tests, Path edges) throws IOException {
        Set<String> named = new TreeSet<>();
        for (String name : found(page, "`(\\w+Test)`")) {
            named.add(name + ".java");
        }
        Set<String> there = files(tests, "Test.java");
        Check.due("tests " + there + ", named " + named, named.equals(there), true);
        Set<String> cases = found(page, "`([\\w-]+\\.txt)`");
        Check.due("boundary cases named: " + cases, cases.equals(files(edges, ".txt")), true);
        int next = 1;
        Matcher row = Pattern.compile("(?m)^\\| (\\d+) to (\\d+),").matcher(page);
        while (row.find()) {
            Check.due("promises from " + next + " on", Integer.parseInt(row.group(1)), next);
            next = Integer.parseInt(row.group(2)) + 1;
        }
        Check.due("promises 1 to 34 have tests", next, 35);
    }

    public static void main(String[] args) throws IOException, ReflectiveOperationException {
        Path root = Path.of(System.getProperty("shown.root"));
        String page = Files.readString(root.resolve("README.md"), StandardCharsets.UTF_8);
        ReadmeTest test = new ReadmeTest();
        for (String block : blocks(page)) {
            test.take(block);
        }
        test.run();
        namesTests(page, root.resolve("src/test/java"), root.resolve("src/test/edges"));
        Check.finish();
    }
}
