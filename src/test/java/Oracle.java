import java.math.BigInteger;
import java.util.ArrayList;
import java.util.HashMap;
import java.util.HashSet;
import java.util.List;
import java.util.Map;
import java.util.Set;
import java.util.TreeSet;

/** The document word by word, slow and plain: what ShownNot is compared with. */
final class Oracle {
    static final int NONE = -1;
    static final int[][] SWAP = {{0, 1, 2}, {1, 0, 2}, {1, 2, 0}, {2, 0, 1}, {0, 2, 1}, {2, 1, 0}};

    static final class Land {
        int n;
        List<int[]> borders = new ArrayList<>();

        Land copy() {
            Land made = new Land();
            made.n = n;
            made.borders.addAll(borders);
            return made;
        }
    }

    static final class Show {
        int swap = 1;
        boolean once;
        int ask;
        List<String> judge;

        Show with(int swap, boolean once, int ask, List<String> judge) {
            Show made = new Show();
            made.swap = swap;
            made.once = once;
            made.ask = ask;
            made.judge = judge;
            return made;
        }
    }

    static final class All {
        List<Land> maps = new ArrayList<>();
        List<Show> shows = new ArrayList<>();
        int[][] seen = new int[20][7];
        int boxMap = NONE;
        int[] boxes;
        Set<Integer> opened = new TreeSet<>();
        int[] lock = {1, 0, 0, 3, 1};
        int letters = 1;
        List<int[]> rows = new ArrayList<>();

        All() {
            for (int[] night : seen) {
                java.util.Arrays.fill(night, NONE);
            }
        }

        All copy() {
            All made = new All();
            for (Land land : maps) {
                made.maps.add(land.copy());
            }
            made.shows.addAll(shows);
            for (int i = 0; i < 20; i++) {
                made.seen[i] = seen[i].clone();
            }
            made.boxMap = boxMap;
            made.boxes = boxes == null ? null : boxes.clone();
            made.opened.addAll(opened);
            made.lock = lock.clone();
            made.letters = letters;
            made.rows.addAll(rows);
            return made;
        }
    }

    All all = new All();
    All kept = new All();
    List<Integer> tape = new ArrayList<>();
    int fault = NONE;
    int faultAt = NONE;

    Land land(int map) {
        return map >= 0 && map < all.maps.size() ? all.maps.get(map) : null;
    }

    Show show(int number) {
        return number >= 0 && number < all.shows.size() ? all.shows.get(number) : null;
    }

    static int power(int n) {
        return n == 0 ? 1 : 3 * power(n - 1);
    }

    static int[] paints(int row, int n) {
        int[] made = new int[n];
        for (int i = 0; i < n; i++) {
            made[i] = row / power(n - 1 - i) % 3;
        }
        return made;
    }

    static int rowOf(int[] paints) {
        int row = 0;
        for (int paint : paints) {
            row = row * 3 + paint;
        }
        return row;
    }

    static int[] swap(int[] paints, int swap) {
        int[] made = paints.clone();
        for (int i = 0; i < made.length; i++) {
            made[i] = SWAP[swap][made[i]];
        }
        return made;
    }

    static boolean good(Land land, int[] paints) {
        for (int[] b : land.borders) {
            if (paints[b[0]] == paints[b[1]]) {
                return false;
            }
        }
        return true;
    }

    static List<int[]> answers(Land land) {
        List<int[]> made = new ArrayList<>();
        for (int row = 0; row < power(land.n); row++) {
            if (good(land, paints(row, land.n))) {
                made.add(paints(row, land.n));
            }
        }
        return made;
    }

    static int[] drawn(Show show) {
        switch (show.swap) {
            case 1: return new int[] {0};
            case 2: return new int[] {0, 1};
            case 3: return new int[] {0, 2, 3};
            default: return new int[] {0, 1, 2, 3, 4, 5};
        }
    }

    static List<int[]> askings(Show show, Land land) {
        List<int[]> made = new ArrayList<>();
        if (show.ask == 0) {
            made.addAll(land.borders);
        }
        for (int x = 0; x < land.n; x++) {
            if (show.ask == 2) {
                made.add(new int[] {x, x});
            }
            for (int y = x + 1; show.ask == 1 && y < land.n; y++) {
                made.add(new int[] {x, y});
            }
        }
        return made;
    }

    static boolean judged(Show show, int[] asking, int a, int b) {
        return show.judge == null || new Judging(show.judge, a, b, asking[0], asking[1]).either();
    }

    /** Judges while it reads, TOKENS that are known to have no FAULT. */
    static final class Judging {
        final List<String> tokens;
        final Map<String, Integer> names;
        int at = 0;

        Judging(List<String> tokens, int a, int b, int x, int y) {
            this.tokens = tokens;
            names = Map.of("a", a, "b", b, "x", x, "y", y);
        }

        String look() {
            return at < tokens.size() ? tokens.get(at) : "";
        }

        boolean eat(String token) {
            if (look().equals(token)) {
                at++;
                return true;
            }
            return false;
        }

        boolean either() {
            boolean so = both();
            while (eat("or")) {
                so = both() | so;
            }
            return so;
        }

        boolean both() {
            boolean so = asked();
            while (eat("and")) {
                so = asked() & so;
            }
            return so;
        }

        boolean asked() {
            if (eat("not")) {
                return !asked();
            }
            BigInteger left = sum();
            String sign = look();
            at++;
            int compared = left.compareTo(sum());
            switch (sign) {
                case "<": return compared < 0;
                case "<=": return compared <= 0;
                case ">": return compared > 0;
                case ">=": return compared >= 0;
                case "=": return compared == 0;
                default: return compared != 0;
            }
        }

        static BigInteger bound(BigInteger value) {
            BigInteger most = BigInteger.valueOf(1000000000);
            return value.min(most).max(most.negate());
        }

        BigInteger sum() {
            BigInteger value = product();
            while (true) {
                if (eat("+")) {
                    value = bound(value.add(product()));
                } else if (eat("-")) {
                    value = bound(value.subtract(product()));
                } else {
                    return value;
                }
            }
        }

        BigInteger product() {
            BigInteger value = one();
            while (eat("*")) {
                value = bound(value.multiply(one()));
            }
            return value;
        }

        BigInteger one() {
            if (eat("-")) {
                return bound(one().negate());
            }
            if (eat("(")) {
                BigInteger value = sum();
                eat(")");
                return value;
            }
            String token = look();
            at++;
            return names.containsKey(token) ? BigInteger.valueOf(names.get(token)) : new BigInteger(token);
        }
    }

    /** TOKENS come to one by one; a state and a pile in place of a descent. */
    final class Scan {
        final List<String> tokens = new ArrayList<>();
        final List<Integer> places = new ArrayList<>();
        final Set<String> sorts = new HashSet<>();
        Show made = new Show();
        String state = "clause";
        int nots;
        final List<String> pile = new ArrayList<>();
        boolean right;

        boolean letter(int c) {
            return c >= 'a' && c <= 'z' || c >= 'A' && c <= 'Z';
        }

        void split() {
            int at = 0;
            while (at < tape.size()) {
                int c = tape.get(at);
                if (c == 32 || c == 10) {
                    at++;
                    continue;
                }
                int end = at + 1;
                if (letter(c)) {
                    while (end < tape.size() && letter(tape.get(end))) {
                        end++;
                    }
                } else if (c >= '0' && c <= '9') {
                    while (end < tape.size() && tape.get(end) >= '0' && tape.get(end) <= '9') {
                        end++;
                    }
                } else if ((c == '<' || c == '>') && end < tape.size() && tape.get(end) == '=') {
                    end++;
                }
                StringBuilder text = new StringBuilder();
                for (int i = at; i < end; i++) {
                    text.append((char) (int) tape.get(i));
                }
                tokens.add(text.toString());
                places.add(at);
                at = end;
            }
            tokens.add("");
            places.add(tape.size());
        }

        boolean run() {
            split();
            for (int i = 0; i < tokens.size(); i++) {
                int found = come(tokens.get(i));
                if (found != 0) {
                    fault = found;
                    faultAt = places.get(i);
                    return false;
                }
            }
            fault = 0;
            faultAt = NONE;
            return true;
        }

        boolean number(String token) {
            return token.matches("[0-9]+");
        }

        int come(String token) {
            switch (state) {
                case "clause":
                    if (token.isEmpty()) {
                        return 0;
                    }
                    if (!Set.of("swap", "once", "ask", "judge").contains(token)) {
                        return 1;
                    }
                    if (!sorts.add(token)) {
                        return 4;
                    }
                    state = token.equals("once") ? "semi" : token.equals("judge") ? "asked" : token;
                    if (token.equals("once")) {
                        made.once = true;
                    }
                    if (token.equals("judge")) {
                        made.judge = new ArrayList<>();
                        nots = 0;
                        right = false;
                    }
                    return 0;
                case "semi":
                    state = "clause";
                    return token.equals(";") ? 0 : 1;
                case "swap":
                    if (!number(token)) {
                        return 1;
                    }
                    if (!Set.of("1", "2", "3", "6").contains(new BigInteger(token).toString())) {
                        return 2;
                    }
                    made.swap = Integer.parseInt(new BigInteger(token).toString());
                    state = "semi";
                    return 0;
                case "ask":
                    made.ask = List.of("borders", "pairs", "lands").indexOf(token);
                    state = "semi";
                    return made.ask < 0 ? 1 : 0;
                case "asked":
                case "operand":
                    return operand(token);
                default:
                    return behind(token);
            }
        }

        int operand(String token) {
            boolean not = token.equals("not") && state.equals("asked");
            if (not || token.equals("(") || token.equals("-")) {
                if (nots + pile.size() == 8) {
                    return 3;
                }
                made.judge.add(token);
                if (not) {
                    nots++;
                } else {
                    pile.add(token);
                    state = "operand";
                }
                return 0;
            }
            if (number(token)) {
                if (new BigInteger(token).compareTo(BigInteger.valueOf(9999)) > 0) {
                    return 2;
                }
            } else if (!Set.of("a", "b", "x", "y").contains(token)) {
                return 1;
            }
            made.judge.add(token);
            oneEnds();
            return 0;
        }

        void oneEnds() {
            while (!pile.isEmpty() && pile.get(pile.size() - 1).equals("-")) {
                pile.remove(pile.size() - 1);
            }
            state = "behind";
        }

        int behind(String token) {
            if (Set.of("+", "-", "*").contains(token)) {
                state = "operand";
            } else if (token.equals(")") && !pile.isEmpty()) {
                pile.remove(pile.size() - 1);
                made.judge.add(token);
                oneEnds();
                return 0;
            } else if (Set.of("<", "<=", ">", ">=", "=", "#").contains(token) && pile.isEmpty() && !right) {
                right = true;
                state = "operand";
            } else if (Set.of("and", "or", ";").contains(token) && pile.isEmpty() && right) {
                right = false;
                nots = 0;
                state = token.equals(";") ? "clause" : "asked";
                if (token.equals(";")) {
                    return 0;
                }
            } else {
                return 1;
            }
            made.judge.add(token);
            return 0;
        }
    }

    int map(int lands) {
        if (lands < 2 || lands > 7 || all.maps.size() == 4) {
            return NONE;
        }
        Land land = new Land();
        land.n = lands;
        all.maps.add(land);
        return all.maps.size() - 1;
    }

    int border(int map, int one, int other) {
        Land land = land(map);
        if (land == null || one < 0 || other < 0 || one >= land.n || other >= land.n || one == other
                || land.borders.size() == 15) {
            return NONE;
        }
        for (int[] b : land.borders) {
            if (b[0] == one && b[1] == other || b[0] == other && b[1] == one) {
                return NONE;
            }
        }
        land.borders.add(new int[] {one, other});
        return land.borders.size() - 1;
    }

    int answer(int map, int i) {
        if (land(map) == null) {
            return NONE;
        }
        List<int[]> answers = answers(land(map));
        if (i == NONE) {
            return answers.size();
        }
        return i >= 0 && i < answers.size() ? rowOf(answers.get(i)) : NONE;
    }

    int swapped(int map, int row, int swap) {
        Land land = land(map);
        if (land == null || row < 0 || row >= power(land.n) || swap < 0 || swap > 5) {
            return NONE;
        }
        return rowOf(swap(paints(row, land.n), swap));
    }

    static List<int[]> orders(int n) {
        List<int[]> made = new ArrayList<>();
        order(new int[n], 0, made);
        return made;
    }

    static void order(int[] order, int at, List<int[]> made) {
        if (at == order.length) {
            made.add(order.clone());
            return;
        }
        for (int i = 0; i < order.length; i++) {
            boolean used = false;
            for (int j = 0; j < at; j++) {
                used |= order[j] == i;
            }
            if (!used) {
                order[at] = i;
                order(order, at + 1, made);
            }
        }
    }

    static int pair(int one, int other) {
        return Math.min(one, other) * 10 + Math.max(one, other);
    }

    static Set<Integer> bordersBy(Land land, int[] order) {
        Set<Integer> made = new HashSet<>();
        for (int[] b : land.borders) {
            made.add(pair(order[b[0]], order[b[1]]));
        }
        return made;
    }

    static int[] same(int n) {
        int[] made = new int[n];
        for (int i = 0; i < n; i++) {
            made[i] = i;
        }
        return made;
    }

    int rings(int map) {
        Land land = land(map);
        if (land == null) {
            return NONE;
        }
        Set<Set<Integer>> rings = new HashSet<>();
        Set<Integer> there = bordersBy(land, same(land.n));
        for (int[] order : orders(land.n)) {
            Set<Integer> ring = new HashSet<>();
            for (int i = 0; i < land.n; i++) {
                ring.add(pair(order[i], order[(i + 1) % land.n]));
            }
            if (land.n >= 3 && there.containsAll(ring)) {
                rings.add(ring);
            }
        }
        return rings.size();
    }

    int turnings(int one, int other, int what) {
        Land from = land(one);
        Land to = land(other);
        if (from == null || to == null || what < 0 || what > 1) {
            return NONE;
        }
        if (what == 0 && from.n != to.n) {
            return 0;
        }
        int count = 0;
        Set<Set<Integer>> unlike = new HashSet<>();
        for (int[] order : orders(from.n)) {
            Set<Integer> made = bordersBy(from, order);
            unlike.add(made);
            if (what == 0 && made.equals(bordersBy(to, same(to.n)))) {
                count++;
            }
        }
        return what == 0 ? count : unlike.size();
    }

    int feed(int a, int b, int c, int d, int e) {
        if (tape.size() + 20 > 300) {
            return NONE;
        }
        for (int four : new int[] {a, b, c, d, e}) {
            for (int i = 3; i >= 0; i--) {
                tape.add((four >>> 8 * i) % 256 & 255);
            }
        }
        return tape.size();
    }

    int end(int n) {
        if (n < 0 || n > tape.size()) {
            return NONE;
        }
        tape = new ArrayList<>(tape.subList(0, n));
        return n;
    }

    int showing() {
        if (all.shows.size() == 8) {
            return NONE;
        }
        Scan scan = new Scan();
        boolean sound = scan.run();
        tape.clear();
        if (!sound) {
            return NONE;
        }
        all.shows.add(scan.made);
        return all.shows.size() - 1;
    }

    int fault(int what) {
        return what == 0 ? fault : what == 1 ? faultAt : NONE;
    }

    int believed(int showing, int map, int k, int a, int b) {
        if (show(showing) == null || land(map) == null) {
            return NONE;
        }
        List<int[]> askings = askings(show(showing), land(map));
        if (k == NONE) {
            return askings.size();
        }
        if (k < 0 || k >= askings.size() || a < 0 || a > 2 || b < 0 || b > 2) {
            return NONE;
        }
        return judged(show(showing), askings.get(k), a, b) ? 1 : 0;
    }

    static int[] rightOf(Show show, Land land) {
        int[] found = {0, NONE, NONE, NONE};
        List<int[]> answers = answers(land);
        List<int[]> askings = askings(show, land);
        for (int i = 0; i < answers.size(); i++) {
            for (int k = 0; k < askings.size(); k++) {
                for (int swap : drawn(show)) {
                    int[] lying = swap(answers.get(i), swap);
                    int[] asking = askings.get(k);
                    if (!judged(show, asking, lying[asking[0]], lying[asking[1]])) {
                        if (found[0] == 0) {
                            found = new int[] {0, i, k, swap};
                        }
                        found[0]++;
                    }
                }
            }
        }
        return found;
    }

    int right(int showing, int map, int what) {
        if (show(showing) == null || land(map) == null || what < 0 || what > 3) {
            return NONE;
        }
        return rightOf(show(showing), land(map))[what];
    }

    static int[] cheatOf(Show show, Land land) {
        List<int[]> askings = askings(show, land);
        int[] best = {NONE, askings.size(), NONE};
        for (int row = 0; row < power(land.n); row++) {
            int[] paints = paints(row, land.n);
            int count = 0;
            for (int[] asking : askings) {
                count += judged(show, asking, paints[asking[0]], paints[asking[1]]) ? 1 : 0;
            }
            if (count > best[0]) {
                best[0] = count;
                best[2] = row;
            }
        }
        return best;
    }

    int cheat(int showing, int map, int what) {
        if (show(showing) == null || land(map) == null || what < 0 || what > 2
                || askings(show(showing), land(map)).isEmpty()) {
            return NONE;
        }
        return cheatOf(show(showing), land(map))[what];
    }

    int nights(int showing, int map, int told) {
        if (show(showing) == null || land(map) == null || told < 2 || told > 1000000000
                || askings(show(showing), land(map)).isEmpty()) {
            return NONE;
        }
        int[] cheat = cheatOf(show(showing), land(map));
        if (cheat[0] == cheat[1]) {
            return NONE;
        }
        BigInteger good = BigInteger.valueOf(cheat[0]);
        BigInteger of = BigInteger.valueOf(cheat[1]);
        int night = 1;
        while (good.pow(night).multiply(BigInteger.valueOf(told)).compareTo(of.pow(night)) > 0) {
            night++;
        }
        return night;
    }

    static Map<List<Integer>, Integer> opened(Show show, int[] answer, int[] first, int[] second) {
        Map<List<Integer>, Integer> made = new HashMap<>();
        for (int swap : drawn(show)) {
            int[] one = swap(answer, swap);
            if (second == null) {
                made.merge(List.of(one[first[0]], one[first[1]]), 1, Integer::sum);
                continue;
            }
            for (int again : drawn(show)) {
                if (!show.once || again == swap) {
                    int[] two = swap(answer, again);
                    made.merge(List.of(one[first[0]], one[first[1]], two[second[0]], two[second[1]]), 1,
                            Integer::sum);
                }
            }
        }
        return made;
    }

    static int[] tellsOf(Show show, Land land, int n) {
        List<int[]> askings = askings(show, land);
        List<int[]> answers = answers(land);
        for (int k = 0; k < askings.size(); k++) {
            for (int l = 0; l < (n == 1 ? 1 : askings.size()); l++) {
                int[] second = n == 1 ? null : askings.get(l);
                Map<List<Integer>, Integer> due = null;
                for (int i = 0; i < answers.size(); i++) {
                    Map<List<Integer>, Integer> got = opened(show, answers.get(i), askings.get(k), second);
                    if (due == null) {
                        due = got;
                    } else if (!due.equals(got)) {
                        return new int[] {1, k, n == 1 ? NONE : l, i};
                    }
                }
            }
        }
        return new int[] {0, NONE, NONE, NONE};
    }

    int tells(int showing, int map, int n, int what) {
        if (show(showing) == null || land(map) == null || n < 1 || n > 2 || what < 0 || what > 3) {
            return NONE;
        }
        return tellsOf(show(showing), land(map), n)[what];
    }

    boolean see(int night, int land, int paint) {
        if (night < 0 || night > 19 || land < 0 || land > 6 || paint < -1 || paint > 2) {
            return false;
        }
        all.seen[night][land] = paint;
        return true;
    }

    long weigh(Show show, int[] answer) {
        long ways = 1;
        int all = 0;
        for (int swap : drawn(show)) {
            boolean so = true;
            for (int[] night : this.all.seen) {
                so &= makes(night, swap(answer, swap));
            }
            all += so ? 1 : 0;
        }
        for (int[] night : this.all.seen) {
            boolean touched = false;
            for (int i = 0; i < answer.length; i++) {
                touched |= night[i] != NONE;
            }
            if (touched) {
                int count = 0;
                for (int swap : drawn(show)) {
                    count += makes(night, swap(answer, swap)) ? 1 : 0;
                }
                ways *= count;
            }
        }
        return show.once ? all : ways;
    }

    static boolean makes(int[] night, int[] lying) {
        for (int i = 0; i < lying.length; i++) {
            if (night[i] != NONE && night[i] != lying[i]) {
                return false;
            }
        }
        return true;
    }

    long weight(int showing, int map, int answer) {
        if (show(showing) == null || land(map) == null) {
            return NONE;
        }
        List<int[]> answers = answers(land(map));
        if (answer < 0 || answer >= answers.size()) {
            return NONE;
        }
        return weigh(show(showing), answers.get(answer));
    }

    int possible(int showing, int map, int what) {
        if (show(showing) == null || land(map) == null || what < 0 || what > 2) {
            return NONE;
        }
        List<int[]> answers = answers(land(map));
        int count = 0;
        int first = NONE;
        Set<Integer> forms = new HashSet<>();
        for (int i = 0; i < answers.size(); i++) {
            if (weigh(show(showing), answers.get(i)) > 0) {
                count++;
                first = first == NONE ? i : first;
                int lowest = Integer.MAX_VALUE;
                for (int swap = 0; swap < 6; swap++) {
                    lowest = Math.min(lowest, rowOf(swap(answers.get(i), swap)));
                }
                forms.add(lowest);
            }
        }
        return what == 0 ? count : what == 1 ? (forms.size() == 1 ? 1 : 0) : first;
    }

    boolean shut(int map, int row, int swap) {
        int made = swapped(map, row, swap);
        if (made == NONE) {
            return false;
        }
        all.boxMap = map;
        all.boxes = paints(made, land(map).n);
        all.opened.clear();
        return true;
    }

    int ask(int border) {
        if (all.boxMap == NONE || border < 0 || border >= land(all.boxMap).borders.size()) {
            return NONE;
        }
        all.opened.add(land(all.boxMap).borders.get(border)[0]);
        all.opened.add(land(all.boxMap).borders.get(border)[1]);
        return all.opened.size();
    }

    int pulled(int land) {
        if (land == NONE) {
            return all.boxMap != NONE && all.opened.size() == all.boxes.length
                    && good(land(all.boxMap), all.boxes) ? 1 : 0;
        }
        return all.boxMap != NONE && all.opened.contains(land) ? all.boxes[land] : NONE;
    }

    boolean lock(int a, int b, int c, int m, int r) {
        if (a < 0 || a > 63 || b < 0 || b > 63 || c < 0 || c > 63 || m < 1 || m > 64 || r < 1 || r > 32) {
            return false;
        }
        all.lock = new int[] {a, b, c, m, r};
        return true;
    }

    int shows(int p, int r) {
        int[] l = all.lock;
        return p < 0 || p > 2 || r < 0 || r >= l[4] ? NONE : (l[0] * p + l[1] * r + l[2] * p * r) % l[3];
    }

    int[] doubled() {
        for (int p = 0; p < 3; p++) {
            for (int r = 0; r < all.lock[4]; r++) {
                for (int q = 0; q < 3; q++) {
                    for (int s = 0; s < all.lock[4]; s++) {
                        if (p != q && shows(p, r) == shows(q, s)) {
                            return new int[] {p, r, q, s};
                        }
                    }
                }
            }
        }
        return new int[] {NONE, NONE, NONE, NONE};
    }

    int[] histogram(int p) {
        int[] made = new int[64];
        for (int r = 0; r < all.lock[4]; r++) {
            made[shows(p, r)]++;
        }
        return made;
    }

    int smeared(int p, int q) {
        int sum = 0;
        for (int i = 0; i < 64; i++) {
            sum += Math.max(0, histogram(p)[i] - histogram(q)[i]);
        }
        return sum;
    }

    int locks(int what) {
        if (what < 0 || what > 8) {
            return NONE;
        }
        if (what == 0) {
            return doubled()[0] == NONE ? 1 : 0;
        }
        if (what == 1) {
            return java.util.Arrays.equals(histogram(0), histogram(1))
                    && java.util.Arrays.equals(histogram(1), histogram(2)) ? 1 : 0;
        }
        if (what < 6) {
            return doubled()[what - 2];
        }
        return what == 6 ? smeared(0, 1) : what == 7 ? smeared(0, 2) : smeared(1, 2);
    }

    int alone(int showing, int map, int g, int n, int what) {
        Show show = show(showing);
        Land land = land(map);
        if (show == null || land == null || g < 0 || g > 99 || n < 1 || n > 100 || what < 0 || what > 2) {
            return NONE;
        }
        List<int[]> askings = askings(show, land);
        for (int row = 0; row < power(land.n); row++) {
            int[] paints = paints(row, land.n);
            for (int t = 0; t < n && !good(land, paints) && !askings.isEmpty(); t++) {
                int sum = t;
                for (int i = 0; i < land.n; i++) {
                    sum += (i + 1) * paints[i] * g;
                }
                int[] asking = askings.get(sum % askings.size());
                if (judged(show, asking, paints[asking[0]], paints[asking[1]])) {
                    return what == 0 ? row : what == 1 ? t : sum % askings.size();
                }
            }
        }
        return NONE;
    }

    /** The odds of one opening of a BORDER, in 36ths, by an ANSWER that is known or by none. */
    static int odds(Show show, Land land, int[] answer, int border, int a, int b) {
        if (answer == null) {
            return a == b ? 0 : 6;
        }
        int count = 0;
        for (int swap : drawn(show)) {
            int[] lying = swap(answer, swap);
            int[] between = land.borders.get(border);
            count += lying[between[0]] == a && lying[between[1]] == b ? 1 : 0;
        }
        return count * 36 / drawn(show).length;
    }

    int unlike(int showing, int one, int i, int other, int j) {
        Show show = show(showing);
        Land first = land(one);
        Land second = land(other);
        if (show == null || first == null || second == null || first.borders.size() != second.borders.size()
                || first.borders.isEmpty()) {
            return NONE;
        }
        List<int[]> ofFirst = answers(first);
        List<int[]> ofSecond = answers(second);
        if (i < 0 || i >= ofFirst.size() || j < 0 || j >= ofSecond.size()) {
            return NONE;
        }
        int m = first.borders.size();
        int count = 0;
        for (int c = 0; c < m; c++) {
            for (int c1 = 0; c1 < m; c1++) {
                int c2 = (c - c1 + m) % m;
                for (int talk = 0; talk < 81; talk++) {
                    int[] o = paints(talk, 4);
                    int known = odds(show, first, ofFirst.get(i), c1, o[0], o[1])
                            * odds(show, second, null, c2, o[2], o[3]);
                    int otherKnown = odds(show, first, null, c1, o[0], o[1])
                            * odds(show, second, ofSecond.get(j), c2, o[2], o[3]);
                    count += known != otherKnown ? 1 : 0;
                }
            }
        }
        return count;
    }

    boolean letters(int v) {
        if (v < 1 || v > 3) {
            return false;
        }
        all.letters = v;
        all.rows.clear();
        return true;
    }

    int row(int a, int b, int c) {
        for (int sign : new int[] {a, b, c}) {
            if (sign == 0 || sign < -all.letters || sign > all.letters) {
                return NONE;
            }
        }
        if (all.rows.size() == 3) {
            return NONE;
        }
        all.rows.add(new int[] {a, b, c});
        return all.rows.size() - 1;
    }

    static int signLand(int sign) {
        return sign > 0 ? 3 + 2 * (sign - 1) : 4 + 2 * (-sign - 1);
    }

    /** The BORDERS of the map TURNED. */
    List<int[]> turned() {
        List<int[]> made = new ArrayList<>(List.of(new int[] {0, 1}, new int[] {0, 2}, new int[] {1, 2}));
        for (int v = 0; v < all.letters; v++) {
            made.add(new int[] {3 + 2 * v, 4 + 2 * v});
            made.add(new int[] {3 + 2 * v, 2});
            made.add(new int[] {4 + 2 * v, 2});
        }
        for (int k = 0; k < all.rows.size(); k++) {
            int p = 3 + 2 * all.letters + 6 * k;
            int[] signs = all.rows.get(k);
            int[][] more = {{signLand(signs[0]), p}, {signLand(signs[1]), p + 1}, {p, p + 1}, {p, p + 2},
                {p + 1, p + 2}, {p + 2, p + 3}, {signLand(signs[2]), p + 4}, {p + 3, p + 4}, {p + 3, p + 5},
                {p + 4, p + 5}, {p + 5, 1}, {p + 5, 2}};
            made.addAll(List.of(more));
        }
        return made;
    }

    /** Paintings that go on from the LANDS below one; bits NONE: by any yes and no. */
    int paintings(List<int[]> borders, int[] paints, int land, int bits) {
        if (land == paints.length) {
            return 1;
        }
        int count = 0;
        for (int paint = 0; paint < 3; paint++) {
            boolean fits = land >= 3 || paint == land;
            if (bits != NONE && land >= 3 && land < 3 + 2 * all.letters && land % 2 == 1) {
                fits &= paint == ((bits >> (land - 3) / 2 & 1) == 1 ? 0 : 1);
            }
            paints[land] = paint;
            for (int[] b : borders) {
                fits &= Math.max(b[0], b[1]) != land || paints[b[0]] != paints[b[1]];
            }
            if (fits) {
                count += paintings(borders, paints, land + 1, bits);
            }
        }
        return count;
    }

    int riddle(int what) {
        int lands = 3 + 2 * all.letters + 6 * all.rows.size();
        if (what == 0) {
            int count = 0;
            for (int bits = 0; bits < 1 << all.letters; bits++) {
                boolean solved = true;
                for (int[] signs : all.rows) {
                    boolean so = false;
                    for (int sign : signs) {
                        so |= (bits >> Math.abs(sign) - 1 & 1) == (sign > 0 ? 1 : 0);
                    }
                    solved &= so;
                }
                count += solved ? 1 : 0;
            }
            return count;
        }
        if (what == 1) {
            return lands;
        }
        if (what == 2) {
            return turned().size();
        }
        if (what == 3 || what >= 1000 && what < 1000 + (1 << all.letters)) {
            return paintings(turned(), new int[lands], 0, what == 3 ? NONE : what - 1000);
        }
        return NONE;
    }

    int mended(int showing, int with, int without, int what) {
        Show told = show(showing);
        if (told == null || land(with) == null || land(without) == null || what < 0 || what > 4
                || answers(land(with)).isEmpty() || !answers(land(without)).isEmpty()) {
            return NONE;
        }
        int[] best = null;
        for (int swap : new int[] {1, 2, 3, 6}) {
            for (int once = 0; once < 2; once++) {
                for (int ask = 0; ask < 3; ask++) {
                    for (int judge = 0; judge < 2; judge++) {
                        Show made = told.with(swap, once == 1, ask, judge == 0 ? told.judge : List.of("a", "#", "b"));
                        int other = (swap != told.swap ? 1 : 0) + (made.once != told.once ? 1 : 0)
                                + (ask != told.ask ? 1 : 0) + judge;
                        if ((best == null || other < best[0]) && does(made, land(with), land(without))) {
                            best = new int[] {other, swap, once, ask, judge};
                        }
                    }
                }
            }
        }
        return best == null ? NONE : best[what];
    }

    static boolean does(Show show, Land with, Land without) {
        if (tellsOf(show, with, 1)[0] == 1 || tellsOf(show, with, 2)[0] == 1 || rightOf(show, with)[0] != 0) {
            return false;
        }
        int[] cheat = cheatOf(show, without);
        return cheat[0] < cheat[1];
    }

    int image() {
        kept = all.copy();
        return all.shows.size();
    }

    int back() {
        all = kept.copy();
        return all.shows.size();
    }

    int about(int what) {
        int nights = 0;
        for (int[] night : all.seen) {
            boolean any = false;
            for (int paint : night) {
                any |= paint != NONE;
            }
            nights += any ? 1 : 0;
        }
        int[] first = {all.maps.size(), all.shows.size(), all.rows.size(), all.letters, tape.size(), nights};
        if (what >= 0 && what < 6) {
            return first[what];
        }
        if (what >= 10 && what < 20 && land(what - 10) != null) {
            return land(what - 10).n;
        }
        if (what >= 20 && what < 30 && land(what - 20) != null) {
            return land(what - 20).borders.size();
        }
        if (what >= 30 && what < 40 && show(what - 30) != null) {
            return show(what - 30).swap;
        }
        if (what >= 40 && what < 50 && show(what - 40) != null) {
            return show(what - 40).once ? 1 : 0;
        }
        return what >= 50 && what < 60 && show(what - 50) != null ? show(what - 50).ask : NONE;
    }
}
