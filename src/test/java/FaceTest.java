import java.io.IOException;
import java.lang.reflect.Field;
import java.lang.reflect.Method;
import java.lang.reflect.Modifier;
import java.nio.file.Files;
import java.nio.file.Path;
import java.util.HashSet;
import java.util.Set;
import java.util.TreeSet;
import java.util.regex.Matcher;
import java.util.regex.Pattern;

/** The public face, and what of LANGUAGE.md can be looked up in the class and its text. */
public final class FaceTest {
    private static final int METHODS = 33;

    /** The methods of the document's face, as "int border(int,int,int)". */
    private static Set<String> documentsFace() throws IOException {
        String page = Files.readString(Path.of(System.getProperty("shown.document")));
        Matcher block = Pattern.compile("(?s)## The public face\\s+```java\n(.*?)```").matcher(page);
        Set<String> told = new TreeSet<>();
        Check.due("the document has a face", block.find(), true);
        Matcher method = Pattern.compile("public (\\w+) (\\w+)\\(([^)]*)\\);").matcher(block.group(1));
        while (method.find()) {
            String types = method.group(3).replaceAll(" \\w+(, |$)", ",").replaceAll(",$", "");
            told.add(method.group(1) + " " + method.group(2) + "(" + types + ")");
        }
        Check.due("the methods of the document's face", told.size(), METHODS);
        return told;
    }

    private static String toldAs(Method method) {
        StringBuilder text = new StringBuilder();
        text.append(method.getReturnType().getSimpleName()).append(' ').append(method.getName()).append('(');
        for (Class<?> type : method.getParameterTypes()) {
            text.append(text.charAt(text.length() - 1) == '(' ? "" : ",").append(type.getSimpleName());
        }
        return text.append(')').toString();
    }

    private static void face() throws IOException, ReflectiveOperationException {
        Set<String> open = new TreeSet<>();
        Set<String> names = new HashSet<>();
        for (Method method : ShownNot.class.getDeclaredMethods()) {
            if (!Modifier.isPrivate(method.getModifiers())) {
                Check.due("public: " + method, Modifier.isPublic(method.getModifiers()), true);
                open.add(toldAs(method));
                names.add(method.getName());
            }
        }
        for (String told : documentsFace()) {
            Check.due("face has " + told, open.remove(told), true);
        }
        Check.due("nothing beside the face: " + open, open.size(), 0);
        for (Method method : ShownNot.class.getDeclaredMethods()) {
            if (Modifier.isPrivate(method.getModifiers())) {
                Check.due("another name than the face's: " + method, names.contains(method.getName()), false);
            }
        }
        for (Field field : ShownNot.class.getDeclaredFields()) {
            boolean isNone = field.getName().equals("NONE");
            Check.due("private: " + field, Modifier.isPrivate(field.getModifiers()), !isNone);
        }
        Check.due("NONE", ShownNot.class.getField("NONE").getInt(null), -1);
        Check.due("final", Modifier.isFinal(ShownNot.class.getModifiers()), true);
        Check.due("public constructor", ShownNot.class.getConstructors().length, 1);
        Check.due("one constructor", ShownNot.class.getDeclaredConstructors().length, 1);
    }

    private static void classesInside() {
        Class<?>[] inside = ShownNot.class.getDeclaredClasses();
        Check.due("at most twelve classes", inside.length + 1 <= 12, true);
        for (Class<?> one : inside) {
            Check.due("static: " + one, Modifier.isStatic(one.getModifiers()), true);
            Check.due("not public: " + one, Modifier.isPublic(one.getModifiers()), false);
            fieldsOf(one);
            for (Method method : one.getDeclaredMethods()) {
                Check.due("seven parameters: " + method, method.getParameterCount() <= 7, true);
            }
        }
        fieldsOf(ShownNot.class);
    }

    private static void fieldsOf(Class<?> one) {
        int fields = 0;
        for (Field field : one.getDeclaredFields()) {
            if (Modifier.isStatic(field.getModifiers())) {
                Check.due("final: " + field, Modifier.isFinal(field.getModifiers()), true);
            } else {
                fields++;
            }
        }
        Check.due("some twenty fields: " + one, fields <= 20, true);
    }

    private static void text() throws IOException {
        String source = Files.readString(Path.of(System.getProperty("shown.source")));
        String bare = source.replaceAll("(?s)/\\*.*?\\*/", "").replaceAll("//[^\n]*", "");
        String[] words = {"throw", "throws", "try", "catch", "synchronized", "assert", "import", "package", "var",
            "double", "float", "Object", "protected", "Exact", "instanceof", "hashCode", "toString"};
        for (String word : words) {
            Check.due("no " + word, Pattern.compile("\\b" + word + "\\b").matcher(bare).find(), false);
        }
        Check.due("no lambda", bare.contains("->"), false);
        Check.due("no method reference", bare.contains("::"), false);
        Check.due("only signs of ASCII", source.chars().allMatch(c -> c < 128), true);
        Matcher loops = Pattern.compile("while \\(true|for \\(;").matcher(bare);
        Check.due("no loop without an end", loops.find(), false);
        methodsAreShort(bare);
    }

    private static void methodsAreShort(String bare) {
        String[] lines = bare.split("\n");
        for (int from = 0; from < lines.length; from++) {
            Matcher head = Pattern.compile("^( {4}| {8})(?!\\s|\\}).*\\) \\{$").matcher(lines[from]);
            if (head.find()) {
                int to = from;
                while (to < lines.length - 1 && !lines[to].equals(head.group(1) + "}")) {
                    to++;
                }
                Check.due("sixty lines: " + lines[from].trim(), to - from <= 60, true);
            }
        }
    }

    public static void main(String[] args) throws Exception {
        face();
        classesInside();
        text();
        Check.finish();
    }
}
