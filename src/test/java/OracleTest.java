import java.util.Random;

/** Random runs of calls, each answer compared with the Oracle's: all promises 1 to 34 together. */
public final class OracleTest {
    private static final int[] ODD = {-1, -2, 7, 20, 100, 1000, 1007, 1008, Integer.MIN_VALUE, Integer.MAX_VALUE,
        Integer.MIN_VALUE + 1, 1000000000, 1000000001, -1000000000};

    private final Random random;
    private final ShownNot got = new ShownNot();
    private final Oracle want = new Oracle();
    private int calls = 0;
    private final String name;

    private OracleTest(long seed) {
        random = new Random(seed);
        name = "seed " + seed;
    }

    private void same(String call, long one, long other) {
        calls++;
        Check.due(name + ", call " + calls + ": " + call, one, other);
    }

    private int pick(int bound) {
        return random.nextInt(bound);
    }

    /** Mostly 0 .. bound - 1, at times just outside, seldom far outside. */
    private int arg(int bound) {
        int luck = pick(40);
        if (luck == 0) {
            return ODD[pick(ODD.length)];
        }
        return luck < 4 ? pick(bound + 2) - 1 : pick(Math.max(1, bound));
    }

    private String sum(int depth) {
        StringBuilder text = new StringBuilder(one(depth));
        while (pick(3) == 0) {
            text.append("+-*".charAt(pick(3))).append(blank()).append(one(depth));
        }
        return text.toString();
    }

    private String blank() {
        return pick(6) == 0 ? " " : pick(20) == 0 ? "\n" : "";
    }

    private String one(int depth) {
        switch (pick(depth > 0 ? 9 : 7)) {
            case 0: return String.valueOf(pick(4));
            case 1: return pick(8) == 0 ? String.valueOf(9990 + pick(12)) : String.valueOf(pick(10));
            case 2: return "x";
            case 3: return "y";
            case 4: return "a";
            case 5: return "b";
            case 6: return "0" + pick(3);
            case 7: return "-" + blank() + one(depth - 1);
            default: return "(" + sum(depth - 1) + blank() + ")";
        }
    }

    private String asked() {
        if (pick(5) == 0) {
            return "not " + asked();
        }
        if (pick(3) == 0) {
            return pick(2) == 0 ? "a#b" : "not a = b";
        }
        String[] signs = {"<", "<=", ">", ">=", "=", "#"};
        return sum(pick(6)) + signs[pick(6)] + blank() + sum(pick(6));
    }

    private String judge() {
        StringBuilder text = new StringBuilder(asked());
        while (pick(3) == 0) {
            text.append(pick(2) == 0 ? " or " : " and ").append(asked());
        }
        return text.toString();
    }

    private String text() {
        StringBuilder text = new StringBuilder();
        int clauses = pick(5);
        for (int i = 0; i < clauses; i++) {
            switch (pick(4)) {
                case 0: text.append("swap ").append(pick(12) == 0 ? pick(12) : new int[] {1, 2, 3, 6, 6}[pick(5)]);
                    break;
                case 1: text.append("once");
                    break;
                case 2: text.append("ask ").append(new String[] {"borders", "pairs", "lands"}[pick(3)]);
                    break;
                default: text.append("judge ").append(judge());
            }
            text.append(blank()).append(";").append(blank());
        }
        if (pick(4) == 0 && text.length() > 0) {
            int at = pick(text.length());
            String[] noise = {"(", ")", "-", "not ", " ", "#", "<", "=", "z", "1", "/", "or ", ";", "", "((((((((",
                "--------", "not not not not ", "99999", "\u00e9", "\0", "A"};
            text.replace(at, Math.min(text.length(), at + pick(3)), noise[pick(noise.length)]);
        }
        return text.length() > 300 ? text.substring(0, 300) : text.toString();
    }

    private void show() {
        byte[] bytes = text().getBytes(java.nio.charset.StandardCharsets.ISO_8859_1);
        if (pick(12) != 0) {
            same("end(0)", got.end(0), want.end(0));
        }
        int before = want.tape.size();
        for (int at = 0; at < bytes.length; at += 20) {
            int[] w = new int[5];
            for (int i = 0; i < 5; i++) {
                w[i] = Check.four(bytes, at + 4 * i);
            }
            same("feed", got.feed(w[0], w[1], w[2], w[3], w[4]), want.feed(w[0], w[1], w[2], w[3], w[4]));
        }
        same("end", got.end(before + bytes.length), want.end(before + bytes.length));
        String tape = new String(bytes, java.nio.charset.StandardCharsets.ISO_8859_1);
        same("showing() of " + tape, got.showing(), want.showing());
        same("fault(0) of " + tape, got.fault(0), want.fault(0));
        same("fault(1) of " + tape, got.fault(1), want.fault(1));
        same("about(4)", got.about(4), want.about(4));
    }

    private int lands(int map) {
        Oracle.Land land = want.land(map);
        return land == null ? 4 : land.n;
    }

    private void maps() {
        if (pick(3) == 0) {
            int n = pick(10) == 0 ? arg(9) : new int[] {2, 3, 3, 4, 4, 4, 5, 5, 6, 7}[pick(10)];
            same("map(" + n + ")", got.map(n), want.map(n));
        }
        int map = arg(want.all.maps.size());
        if (pick(5) == 0) {
            int n = lands(map);
            for (int one = 0; one < n; one++) {
                for (int other = one + 1; other < n; other++) {
                    int first = pick(2) == 0 ? one : other;
                    same("border", got.border(map, first, one + other - first),
                            want.border(map, first, one + other - first));
                }
            }
        }
        for (int i = pick(5); i >= 0; i--) {
            int one = arg(lands(map));
            int other = arg(lands(map));
            same("border(" + map + ", " + one + ", " + other + ")", got.border(map, one, other),
                    want.border(map, one, other));
        }
    }

    private void ofMap() {
        int map = arg(want.all.maps.size());
        int other = arg(want.all.maps.size());
        int i = arg(20);
        int row = arg(Oracle.power(lands(map)));
        int swap = arg(6);
        int what = arg(2);
        same("answer(" + map + ", -1)", got.answer(map, -1), want.answer(map, -1));
        same("answer(" + map + ", " + i + ")", got.answer(map, i), want.answer(map, i));
        same("swapped(" + map + ", " + row + ", " + swap + ")", got.swapped(map, row, swap),
                want.swapped(map, row, swap));
        if (lands(map) < 7 || pick(20) == 0) {
            same("rings(" + map + ")", got.rings(map), want.rings(map));
            same("turnings(" + map + ", " + other + ", " + what + ")", got.turnings(map, other, what),
                    want.turnings(map, other, what));
        }
    }

    /** The Oracle takes long where there are many ANSWERS. */
    private boolean light(int map) {
        Oracle.Land land = want.land(map);
        return land == null || land.n <= 4 || Oracle.answers(land).size() <= 60;
    }

    private void play() {
        int showing = arg(want.all.shows.size());
        int map = arg(want.all.maps.size());
        int k = arg(8);
        int a = arg(3);
        int b = arg(3);
        same("believed(" + showing + ", " + map + ", " + k + ", " + a + ", " + b + ")",
                got.believed(showing, map, k, a, b), want.believed(showing, map, k, a, b));
        same("believed(" + showing + ", " + map + ", -1, 0, 0)",
                got.believed(showing, map, -1, 0, 0), want.believed(showing, map, -1, 0, 0));
        if (!light(map)) {
            return;
        }
        int what = arg(4);
        same("right(" + showing + ", " + map + ", " + what + ")", got.right(showing, map, what),
                want.right(showing, map, what));
        what = arg(3);
        same("cheat(" + showing + ", " + map + ", " + what + ")", got.cheat(showing, map, what),
                want.cheat(showing, map, what));
        int told = pick(2) == 0 ? arg(1000) : 1 << pick(30);
        same("nights(" + showing + ", " + map + ", " + told + ")", got.nights(showing, map, told),
                want.nights(showing, map, told));
        int n = arg(3);
        what = arg(4);
        same("tells(" + showing + ", " + map + ", " + n + ", " + what + ")", got.tells(showing, map, n, what),
                want.tells(showing, map, n, what));
        int g = arg(100);
        int tries = pick(2) == 0 ? arg(101) : 1 + pick(3);
        what = arg(3);
        same("alone(" + showing + ", " + map + ", " + g + ", " + tries + ", " + what + ")",
                got.alone(showing, map, g, tries, what), want.alone(showing, map, g, tries, what));
        int other = arg(want.all.maps.size());
        int i = arg(6);
        int j = arg(6);
        same("unlike(" + showing + ", " + map + ", " + i + ", " + other + ", " + j + ")",
                got.unlike(showing, map, i, other, j), want.unlike(showing, map, i, other, j));
    }

    private void mend() {
        int showing = arg(want.all.shows.size());
        int with = arg(want.all.maps.size());
        int without = arg(want.all.maps.size());
        if (light(with) && light(without)) {
            for (int what = -1; what < 6; what++) {
                same("mended(" + showing + ", " + with + ", " + without + ", " + what + ")",
                        got.mended(showing, with, without, what), want.mended(showing, with, without, what));
            }
        }
    }

    private void seen() {
        for (int i = pick(4); i >= 0; i--) {
            int night = pick(3) == 0 ? arg(20) : pick(3);
            int land = pick(3) == 0 ? arg(7) : pick(3);
            int paint = pick(4) == 0 ? -1 : arg(3);
            same("see(" + night + ", " + land + ", " + paint + ")", got.see(night, land, paint) ? 1 : 0,
                    want.see(night, land, paint) ? 1 : 0);
        }
        int showing = arg(want.all.shows.size());
        int map = arg(want.all.maps.size());
        int answer = arg(20);
        same("weight(" + showing + ", " + map + ", " + answer + ")", got.weight(showing, map, answer),
                want.weight(showing, map, answer));
        int what = arg(3);
        if (light(map)) {
            same("possible(" + showing + ", " + map + ", " + what + ")", got.possible(showing, map, what),
                    want.possible(showing, map, what));
        }
    }

    private void boxes() {
        if (pick(3) == 0) {
            int map = arg(want.all.maps.size());
            int row = pick(2) == 0 ? want.answer(map, pick(3)) : arg(Oracle.power(lands(map)));
            int swap = arg(6);
            same("shut(" + map + ", " + row + ", " + swap + ")", got.shut(map, row, swap) ? 1 : 0,
                    want.shut(map, row, swap) ? 1 : 0);
        }
        for (int i = pick(6); i >= 0; i--) {
            int border = arg(6);
            int land = arg(4);
            same("ask(" + border + ")", got.ask(border), want.ask(border));
            same("pulled(" + land + ")", got.pulled(land), want.pulled(land));
            same("pulled(-1)", got.pulled(-1), want.pulled(-1));
        }
    }

    private void locks() {
        int a = arg(64);
        int b = arg(64);
        int c = arg(64);
        int m = pick(2) == 0 ? arg(66) : 1 + pick(8);
        int r = pick(2) == 0 ? arg(34) : 1 + pick(8);
        same("lock(" + a + ", " + b + ", " + c + ", " + m + ", " + r + ")", got.lock(a, b, c, m, r) ? 1 : 0,
                want.lock(a, b, c, m, r) ? 1 : 0);
        int paint = arg(3);
        int draw = arg(r < 1 || r > 32 ? 1 : r);
        same("shows(" + paint + ", " + draw + ")", got.shows(paint, draw), want.shows(paint, draw));
        int what = arg(9);
        same("locks(" + what + ")", got.locks(what), want.locks(what));
        what = pick(9);
        same("locks(" + what + ")", got.locks(what), want.locks(what));
    }

    private void riddles() {
        if (pick(3) == 0) {
            int v = arg(4);
            same("letters(" + v + ")", got.letters(v) ? 1 : 0, want.letters(v) ? 1 : 0);
        }
        for (int i = pick(3); i >= 0; i--) {
            int[] s = new int[3];
            for (int at = 0; at < 3; at++) {
                s[at] = (pick(2) == 0 ? 1 : -1) * (pick(8) == 0 ? arg(5) : 1 + pick(want.all.letters));
            }
            same("row(" + s[0] + ", " + s[1] + ", " + s[2] + ")", got.row(s[0], s[1], s[2]),
                    want.row(s[0], s[1], s[2]));
        }
        for (int i = 0; i < 3; i++) {
            int what = pick(2) == 0 ? arg(4) : 1000 + arg(8);
            same("riddle(" + what + ")", got.riddle(what), want.riddle(what));
        }
    }

    private void others() {
        int what = pick(2) == 0 ? arg(62) : 10 * (1 + pick(5)) + pick(4);
        same("about(" + what + ")", got.about(what), want.about(what));
        what = arg(2);
        same("fault(" + what + ")", got.fault(what), want.fault(what));
        if (pick(6) == 0) {
            same("image()", got.image(), want.image());
        }
        if (pick(12) == 0) {
            same("back()", got.back(), want.back());
        }
        if (pick(4) == 0) {
            int n = arg(30);
            same("end(" + n + ")", got.end(n), want.end(n));
        }
    }

    private void borders(int map, String pairs) {
        for (int at = 0; at + 1 < pairs.length(); at += 2) {
            int one = pairs.charAt(at) - '0';
            int other = pairs.charAt(at + 1) - '0';
            same("border(" + map + ", " + one + ", " + other + ")", got.border(map, one, other),
                    want.border(map, one, other));
        }
    }

    /** Most runs start with MAPS and SHOWINGS, so that fewer calls are for nothing. */
    private void begin() {
        String[] painted = {"011202", "1201", "01120213", "0112021323", "01122334400213", "01020312"};
        String[] bare = {"010203121323", "01020312132334", "300123021231"};
        same("map(4)", got.map(4), want.map(4));
        borders(0, bare[pick(bare.length)]);
        int lands = 3 + pick(4);
        same("map(" + lands + ")", got.map(lands), want.map(lands));
        borders(1, painted[pick(painted.length)]);
        for (int i = pick(5); i >= 0; i--) {
            maps();
        }
        for (int i = pick(8); i >= 0; i--) {
            show();
        }
    }

    private void run() {
        if (pick(4) != 0) {
            begin();
        }
        while (calls < 470) {
            switch (pick(12)) {
                case 0: maps(); break;
                case 1: show(); break;
                case 2: ofMap(); break;
                case 3:
                case 4:
                case 5: play(); break;
                case 6: mend(); break;
                case 7: seen(); break;
                case 8: boxes(); break;
                case 9: locks(); break;
                case 10: riddles(); break;
                default: others();
            }
        }
    }

    public static void main(String[] args) {
        int runs = args.length > 0 ? Integer.parseInt(args[0]) : 150;
        int from = args.length > 1 ? Integer.parseInt(args[1]) : 0;
        for (int seed = from; seed < from + runs && !Check.anyWrong(); seed++) {
            new OracleTest(seed).run();
        }
        Check.finish();
    }
}
