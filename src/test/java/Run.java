import java.lang.reflect.InvocationTargetException;
import java.lang.reflect.Method;
import java.lang.reflect.Modifier;
import java.util.ArrayList;
import java.util.HashMap;
import java.util.List;
import java.util.Map;

/** A new ShownNot, or a new Oracle, whose calls are told as texts, "border(0, 1, 2)", and counted. */
final class Run {
    /** What later calls answer is free, so a test that makes more is no test. */
    private static final int MOST_CALLS = 512;
    private static final Map<String, Method> FACE = faceOf(ShownNot.class);
    private static final Map<String, Method> FACE_OF_ORACLE = faceOf(Oracle.class);
    private static final String[] AT_A_GLANCE = glance();

    private final Object x;
    private final Map<String, Method> face;
    private int calls = 0;

    private Run(Object x, Map<String, Method> face) {
        this.x = x;
        this.face = face;
    }

    Run() {
        this(new ShownNot(), FACE);
    }

    static Run ofOracle() {
        return new Run(new Oracle(), FACE_OF_ORACLE);
    }

    /** What a class has for each method of the document's face. */
    private static Map<String, Method> faceOf(Class<?> type) {
        Map<String, Method> found = new HashMap<>();
        for (Method method : ShownNot.class.getDeclaredMethods()) {
            if (Modifier.isPublic(method.getModifiers())) {
                try {
                    found.put(method.getName(), type.getDeclaredMethod(method.getName(), method.getParameterTypes()));
                } catch (NoSuchMethodException missing) {
                    throw new IllegalStateException(type + " hasn't " + method.getName(), missing);
                }
            }
        }
        return found;
    }

    /** What a call answers; true counts 1, false 0. */
    long call(String told) {
        calls++;
        if (calls > MOST_CALLS) {
            throw new IllegalStateException("more than 512 calls, at " + told);
        }
        Method method = face.get(nameOf(told));
        if (method == null) {
            throw new IllegalStateException("no such call: " + told);
        }
        String[] texts = argumentsOf(told);
        Object[] arguments = new Object[texts.length];
        for (int i = 0; i < texts.length; i++) {
            arguments[i] = number(texts[i]);
        }
        try {
            Object answer = method.invoke(x, arguments);
            return answer instanceof Boolean so ? (so ? 1 : 0) : ((Number) answer).longValue();
        } catch (InvocationTargetException thrown) {
            throw new IllegalStateException(told + " threw " + thrown.getCause(), thrown);
        } catch (IllegalAccessException hidden) {
            throw new IllegalStateException(told + " can't be called", hidden);
        }
    }

    static String nameOf(String told) {
        return told.substring(0, told.indexOf('('));
    }

    static String[] argumentsOf(String told) {
        String inside = told.substring(told.indexOf('(') + 1, told.lastIndexOf(')')).trim();
        return inside.isEmpty() ? new String[0] : inside.split(" *, *");
    }

    static int number(String text) {
        switch (text) {
            case "NONE": return -1;
            case "LEAST": return Integer.MIN_VALUE;
            case "GREATEST": return Integer.MAX_VALUE;
            default: return Integer.decode(text);
        }
    }

    /**
     * All that can be seen of it. Boxes, the tape and THE IMAGE come last, as they can't be looked
     * at without a change.
     */
    List<String> look() {
        List<String> seen = new ArrayList<>();
        for (String told : AT_A_GLANCE) {
            note(seen, "", told);
        }
        openBoxes(seen, "");
        readTape(seen, "then ");
        note(seen, "then ", "back()");
        for (String told : AT_A_GLANCE) {
            note(seen, "in the image ", told);
        }
        openBoxes(seen, "in the image ");
        // With 8 SHOWINGS the tape could not be read before.
        readTape(seen, "at last ");
        return seen;
    }

    /** What lies in boxes, opened or not. */
    private void openBoxes(List<String> seen, String when) {
        for (int border = 0; border < 15; border++) {
            note(seen, when, "ask(" + border + ")");
        }
        for (int land = -1; land < 7; land++) {
            note(seen, when, "pulled(" + land + ")");
        }
    }

    private void readTape(List<String> seen, String when) {
        note(seen, when, "showing()");
        note(seen, when, "fault(0)");
        note(seen, when, "fault(1)");
        long last = call("about(1)") - 1;
        if (last >= 0) {
            note(seen, when, "about(" + (30 + last) + ")");
            note(seen, when, "about(" + (40 + last) + ")");
            note(seen, when, "about(" + (50 + last) + ")");
        }
    }

    private void note(List<String> seen, String when, String told) {
        seen.add(when + told + " = " + call(told));
    }

    private static String[] glance() {
        List<String> calls = new ArrayList<>();
        for (int what = 0; what < 60; what++) {
            boolean plain = what < 6;
            boolean ofMap = what >= 10 && what < 30 && what % 10 < 4;
            if (plain || ofMap || what >= 30 && what % 10 < 8) {
                calls.add("about(" + what + ")");
            }
        }
        for (int map = 0; map < 4; map++) {
            calls.add("answer(" + map + ", -1)");
            calls.add("answer(" + map + ", 0)");
            calls.add("possible(0, " + map + ", 0)");
            calls.add("weight(0, " + map + ", 0)");
            calls.add("weight(1, " + map + ", 1)");
        }
        for (int showing = 0; showing < 8; showing++) {
            calls.add("believed(" + showing + ", 0, 0, 0, 0)");
            calls.add("believed(" + showing + ", 0, 0, 0, 1)");
        }
        for (int land = -1; land < 7; land++) {
            calls.add("pulled(" + land + ")");
        }
        String[] others = {"fault(0)", "fault(1)", "shows(1, 0)", "shows(0, 1)", "shows(1, 1)", "shows(2, 30)",
            "shows(2, 31)", "locks(0)", "locks(1)", "locks(5)", "locks(6)", "locks(7)", "locks(8)", "riddle(0)",
            "riddle(3)", "riddle(1000)", "riddle(1001)", "riddle(1002)", "riddle(1007)"};
        calls.addAll(List.of(others));
        return calls.toArray(new String[0]);
    }
}
