import java.nio.charset.StandardCharsets;

/** What the tests share: answers compared, and texts put on the tape. */
final class Check {
    private static int wrong = 0;
    private static int looked = 0;

    private Check() {
    }

    static void due(String call, long got, long want) {
        looked++;
        if (got != want) {
            wrong++;
            System.out.println(call + " answered " + got + ", due is " + want);
        }
    }

    static void due(String call, boolean got, boolean want) {
        due(call, got ? 1 : 0, want ? 1 : 0);
    }

    static void finish() {
        System.out.println(looked + " answers looked at, " + wrong + " wrong");
        if (wrong != 0 || looked == 0) {
            System.exit(1);
        }
    }

    static boolean anyWrong() {
        return wrong != 0;
    }

    /** The tape is this text alone. */
    static void tape(ShownNot x, String text) {
        x.end(0);
        byte[] bytes = text.getBytes(StandardCharsets.ISO_8859_1);
        for (int at = 0; at < bytes.length; at += 20) {
            x.feed(four(bytes, at), four(bytes, at + 4), four(bytes, at + 8), four(bytes, at + 12),
                    four(bytes, at + 16));
        }
        x.end(bytes.length);
    }

    static int show(ShownNot x, String text) {
        tape(x, text);
        return x.showing();
    }

    static int four(byte[] bytes, int from) {
        int value = 0;
        for (int i = from; i < from + 4; i++) {
            value = value << 8 | (i < bytes.length ? bytes[i] & 255 : 0);
        }
        return value;
    }

    /** A MAP with these BORDERS, two digits each ("01 12"). */
    static int map(ShownNot x, int lands, String borders) {
        int map = x.map(lands);
        for (String two : borders.isEmpty() ? new String[0] : borders.split(" ")) {
            x.border(map, two.charAt(0) - '0', two.charAt(1) - '0');
        }
        return map;
    }
}
