import java.io.IOException;
import java.nio.charset.StandardCharsets;
import java.nio.file.Files;
import java.nio.file.Path;
import java.util.ArrayList;
import java.util.List;
import java.util.stream.Stream;

/**
 * The boundary cases, sentence by sentence: each file under src/test/edges names promises, quotes
 * their sentences, and tells runs of calls that hold just if the sentence does. README.md tells how
 * a row is written. Each answer that a row asks for is asked of the Oracle too, so that none is there
 * just because the class answers so.
 */
public final class EdgesTest {
    private final Document document;
    private String where = "";
    private Run run = new Run();
    private Run oracle = Run.ofOracle();
    private long saidByOracle = 0;
    /** The calls made on the object so far, so that they can be made again on others. */
    private List<String> made = new ArrayList<>();
    private int sentences = 0;

    private EdgesTest(Document document) {
        this.document = document;
    }

    private void anew() {
        run = new Run();
        oracle = Run.ofOracle();
        made = new ArrayList<>();
    }

    private void read(Path file) throws IOException {
        for (String line : Files.readAllLines(file, StandardCharsets.US_ASCII)) {
            String row = line.trim();
            if (row.isEmpty() || row.startsWith("//")) {
                continue;
            }
            if (row.startsWith("Promise ") || row.startsWith("Terms") || row.startsWith("What it is")) {
                document.turnTo(row);
            } else if (row.startsWith("\"")) {
                String sentence = row.substring(1, row.length() - 1);
                Check.due("in the document, " + document.section() + ": " + row, document.quote(sentence), true);
                where = document.section() + ", " + row + ": ";
                sentences++;
                anew();
            } else {
                play(row);
            }
        }
    }

    private void play(String row) {
        int colon = row.indexOf(": ");
        String first = row.split("[ :]")[0];
        String rest = row.substring(Math.min(row.length(), first.length() + 1)).trim();
        String behind = colon < 0 ? "" : unfold(row.substring(colon + 2));
        switch (first) {
            case "new": anew(); break;
            case "text": put(behind); break;
            case "show": put(behind); make("showing()"); break;
            case "faulty": faulty(numbers(row, colon), behind); break;
            case "sound": sound(numbers(row, colon), behind); break;
            case "judge": judge(numbers(row, colon), behind); break;
            case "borders": borders(numbers(row, colon)[0], behind); break;
            case "times": times(rest); break;
            case "refused": refused(callOf(rest), answerOf(rest)); break;
            case "wild": wild(callOf(rest), answerOf(rest)); break;
            default: one(row);
        }
    }

    private static int[] numbers(String row, int colon) {
        String[] texts = row.substring(row.indexOf(' ') + 1, colon).split(" ");
        int[] made = new int[texts.length];
        for (int i = 0; i < made.length; i++) {
            made[i] = Integer.parseInt(texts[i]);
        }
        return made;
    }

    private static String callOf(String row) {
        int end = row.indexOf(" = ");
        return end < 0 ? row : row.substring(0, end);
    }

    private static long answerOf(String row) {
        String text = row.substring(row.indexOf(" = ") + 3);
        switch (text) {
            case "NONE": return -1;
            case "true": return 1;
            case "false": return 0;
            default: return Long.parseLong(text);
        }
    }

    private long make(String call) {
        made.add(call);
        saidByOracle = oracle.call(call);
        return run.call(call);
    }

    private void due(String call, long want) {
        Check.due(where + call, make(call), want);
        Check.due("the Oracle: " + where + call, saidByOracle, want);
    }

    private void one(String row) {
        if (row.contains(" = ")) {
            due(callOf(row), answerOf(row));
        } else {
            make(row);
        }
    }

    private void times(String rest) {
        int end = rest.indexOf(' ');
        for (int i = Integer.parseInt(rest.substring(0, end)); i > 0; i--) {
            one(rest.substring(end + 1));
        }
    }

    private Run again() {
        Run other = new Run();
        for (String call : made) {
            other.call(call);
        }
        return other;
    }

    /** Its answer, and that an object on which it was called looks like one on which it wasn't. */
    private void refused(String call, long want) {
        Run without = again();
        Run with = again();
        Check.due(where + call, with.call(call), want);
        List<String> left = without.look();
        List<String> got = with.look();
        for (int i = 0; i < Math.max(left.size(), got.size()); i++) {
            String one = i < left.size() ? left.get(i) : "nothing";
            String other = i < got.size() ? got.get(i) : "nothing";
            Check.due(where + call + " leaves " + one + ", and not " + other, one.equals(other), true);
        }
        due(call, want);
    }

    /** Each argument is the least and the greatest int once. */
    private void wild(String call, long want) {
        String[] arguments = Run.argumentsOf(call);
        for (int i = 0; i < arguments.length; i++) {
            for (String wild : new String[] {"LEAST", "GREATEST"}) {
                String[] changed = arguments.clone();
                changed[i] = wild;
                refused(Run.nameOf(call) + "(" + String.join(", ", changed) + ")", want);
            }
        }
    }

    private void put(String text) {
        byte[] bytes = text.getBytes(StandardCharsets.ISO_8859_1);
        make("end(0)");
        for (int at = 0; at < bytes.length; at += 20) {
            StringBuilder call = new StringBuilder("feed(");
            for (int word = 0; word < 5; word++) {
                call.append(word == 0 ? "" : ", ").append(Check.four(bytes, at + 4 * word));
            }
            make(call.append(')').toString());
        }
        due("end(" + bytes.length + ")", bytes.length);
    }

    private void faulty(int[] due, String text) {
        anew();
        String before = where;
        where += text + ": ";
        put(text);
        due("showing()", -1);
        due("fault(0)", due[0]);
        due("fault(1)", due[1]);
        due("about(1)", 0);
        due("about(4)", 0);
        where = before;
    }

    private void sound(int[] due, String text) {
        anew();
        String before = where;
        where += text + ": ";
        put(text);
        due("showing()", 0);
        due("fault(0)", 0);
        due("fault(1)", -1);
        due("about(30)", due[0]);
        due("about(40)", due[1]);
        due("about(50)", due[2]);
        due("about(4)", 0);
        where = before;
    }

    /** x, y, a, b, and whether it is BELIEVED then. */
    private void judge(int[] due, String text) {
        anew();
        String before = where;
        where += text + ": ";
        boolean ofLands = due[0] == due[1];
        make("map(7)");
        make("border(0, " + due[0] + ", " + due[1] + ")");
        put((ofLands ? "ask lands;" : "") + "judge " + text + ";");
        due("showing()", 0);
        due("believed(0, 0, " + (ofLands ? due[0] : 0) + ", " + due[2] + ", " + due[3] + ")", due[4]);
        where = before;
    }

    private void borders(int map, String pairs) {
        for (String two : pairs.split(" ")) {
            make("border(" + map + ", " + two.charAt(0) + ", " + two.charAt(1) + ")");
        }
    }

    /** [3|ab] is ababab; \n, \t and \s are a line's end, a tab and a blank, \x and two digits a byte. */
    private static String unfold(String text) {
        StringBuilder made = new StringBuilder();
        for (int at = 0; at < text.length(); at++) {
            char sign = text.charAt(at);
            if (sign == '[') {
                int bar = text.indexOf('|', at);
                int end = text.indexOf(']', bar);
                made.append(unfold(text.substring(bar + 1, end)).repeat(Integer.parseInt(text.substring(at + 1, bar))));
                at = end;
            } else if (sign == '\\' && text.charAt(at + 1) == 'x') {
                made.append((char) Integer.parseInt(text.substring(at + 2, at + 4), 16));
                at += 3;
            } else if (sign == '\\') {
                at++;
                made.append(text.charAt(at) == 'n' ? '\n' : text.charAt(at) == 't' ? '\t' : ' ');
            } else {
                made.append(sign);
            }
        }
        return made.toString();
    }

    public static void main(String[] args) throws IOException {
        EdgesTest test = new EdgesTest(new Document(Path.of(System.getProperty("shown.document"))));
        List<Path> files = new ArrayList<>();
        try (Stream<Path> all = Files.list(Path.of(System.getProperty("shown.edges")))) {
            all.filter(file -> file.toString().endsWith(".txt")).sorted().forEach(files::add);
        }
        for (Path file : files) {
            test.read(file);
        }
        test.document.untested();
        System.out.println(test.sentences + " sentences of the document looked at");
        Check.finish();
    }
}
