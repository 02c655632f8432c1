/** Shown without showing: maps in three paints, and showings that one can paint them. */
public final class ShownNot {
    /** None. */
    public static final int NONE = -1;

    private static final int MOST_MAPS = 4;
    private static final int FEWEST_LANDS = 2;
    private static final int MOST_LANDS = 7;
    private static final int MOST_BORDERS = 15;
    private static final int PAINTS = 3;
    private static final int OPENINGS = 9;
    private static final int SWAPS = 6;
    private static final int MOST_ROWS = 2187;
    private static final int MOST_ASKINGS = 21;
    private static final int MOST_BYTES = 300;
    private static final int BYTES_AT_ONCE = 20;
    private static final int MOST_SHOWINGS = 8;
    private static final int MOST_NIGHTS = 20;
    private static final int HIGHEST_NUMBER = 9999;
    private static final int MOST_OPEN = 8;
    private static final int MOST_LETTERS = 3;
    private static final int MOST_RIDDLE_ROWS = 3;
    private static final int SIGNS_OF_A_ROW = 3;
    private static final int PAINTINGS_BY_BITS = 1000;
    private static final int MENDINGS = 48;
    private static final int MOST_OTHER = 4;
    private static final int MOST_TOLD = 1000000000;

    private static final int ASK_BORDERS = 0;
    private static final int ASK_PAIRS = 1;
    private static final int ASK_LANDS = 2;

    /** What 0, 1, 2 become by SWAP 0, then by SWAP 1, and so on. */
    private static final int[] SWAP_PAINTS = {0, 1, 2, 1, 0, 2, 1, 2, 0, 2, 0, 1, 0, 2, 1, 2, 1, 0};
    /** At 3 * paint + shown: the SWAPS that take the one to the other, a bit each. */
    private static final int[] SWAPS_TAKING = {17, 6, 40, 10, 33, 20, 36, 24, 3};
    private static final int[] SWAP_CHOICES = {1, 2, 3, 6};
    /** The openings 3 * a + b of unlike paints, a bit each. */
    private static final int UNLIKE_OPENINGS = 238;
    private static final int ALL_OPENINGS = 511;

    private final State now;
    private final State kept;
    private final Reader reader;
    private final Play play;
    private final int[] judgeUnlike;
    private final Power odds;
    private final Power whole;

    public ShownNot() {
        now = new State();
        kept = new State();
        reader = new Reader();
        play = new Play();
        judgeUnlike = new int[MOST_LANDS * MOST_LANDS];
        for (int pair = 0; pair < judgeUnlike.length; pair++) {
            judgeUnlike[pair] = UNLIKE_OPENINGS;
        }
        odds = new Power();
        whole = new Power();
    }

    public int map(int lands) {
        if (lands < FEWEST_LANDS || lands > MOST_LANDS || now.mapCount >= MOST_MAPS) {
            return NONE;
        }
        now.maps[now.mapCount].begin(lands);
        now.mapCount++;
        return now.mapCount - 1;
    }

    public int border(int map, int one, int other) {
        Chart chart = now.chartAt(map);
        if (chart == null || !chart.canJoin(one, other)) {
            return NONE;
        }
        chart.join(one, other);
        return chart.borders - 1;
    }

    public int answer(int map, int i) {
        Chart chart = now.chartAt(map);
        if (chart == null) {
            return NONE;
        }
        chart.findAnswers();
        return i == NONE ? chart.answers : chart.answerRow(i);
    }

    public int swapped(int map, int row, int swap) {
        Chart chart = now.chartAt(map);
        if (chart == null || !chart.hasRow(row) || !isSwap(swap)) {
            return NONE;
        }
        return swapRow(row, chart.lands, swap);
    }

    public int rings(int map) {
        Chart chart = now.chartAt(map);
        return chart == null ? NONE : chart.countRings();
    }

    public int turnings(int one, int other, int what) {
        Chart from = now.chartAt(one);
        Chart to = now.chartAt(other);
        if (from == null || to == null || what < 0 || what > 1) {
            return NONE;
        }
        if (what == 0) {
            return from.countTurns(to);
        }
        int same = from.countTurns(from);
        return same == 0 ? NONE : from.countOrders() / same;
    }

    public int feed(int a, int b, int c, int d, int e) {
        if (reader.length + BYTES_AT_ONCE > MOST_BYTES) {
            return NONE;
        }
        reader.takeFour(a);
        reader.takeFour(b);
        reader.takeFour(c);
        reader.takeFour(d);
        reader.takeFour(e);
        return reader.length;
    }

    public int end(int n) {
        if (n < 0 || n > reader.length) {
            return NONE;
        }
        reader.length = n;
        return n;
    }

    public int showing() {
        if (now.showingCount >= MOST_SHOWINGS) {
            return NONE;
        }
        boolean sound = reader.readShowing();
        reader.length = 0;
        if (!sound) {
            return NONE;
        }
        reader.handOver(now.showings[now.showingCount]);
        now.showingCount++;
        return now.showingCount - 1;
    }

    public int fault(int what) {
        if (what == 0) {
            return reader.faultKind;
        }
        return what == 1 ? reader.faultPlace : NONE;
    }

    public int believed(int showing, int map, int k, int a, int b) {
        if (!playFor(showing, map)) {
            return NONE;
        }
        if (k == NONE) {
            return play.askings;
        }
        if (k < 0 || k >= play.askings || !isPaint(a) || !isPaint(b)) {
            return NONE;
        }
        return oneIf(play.believes(k, a * PAINTS + b));
    }

    public int right(int showing, int map, int what) {
        if (what < 0 || what > 3 || !playFor(showing, map)) {
            return NONE;
        }
        int refused = play.countRefused();
        switch (what) {
            case 0: return refused;
            case 1: return play.foundAnswer;
            case 2: return play.foundAsking;
            default: return play.foundSwap;
        }
    }

    public int cheat(int showing, int map, int what) {
        if (what < 0 || what > 2 || !playFor(showing, map) || play.askings == 0) {
            return NONE;
        }
        play.findCheat();
        switch (what) {
            case 0: return play.cheatCount;
            case 1: return play.askings;
            default: return play.foundRow;
        }
    }

    public int nights(int showing, int map, int told) {
        if (told < 2 || told > MOST_TOLD || !playFor(showing, map) || play.askings == 0) {
            return NONE;
        }
        play.findCheat();
        return play.cheatCount >= play.askings ? NONE : nightsUntil(told);
    }

    public int tells(int showing, int map, int n, int what) {
        if (n < 1 || n > 2 || what < 0 || what > 3 || !playFor(showing, map)) {
            return NONE;
        }
        boolean told = play.findTelling(n);
        switch (what) {
            case 0: return oneIf(told);
            case 1: return play.foundAsking;
            case 2: return play.foundSecond;
            default: return play.foundAnswer;
        }
    }

    public boolean see(int night, int land, int paint) {
        if (night < 0 || night >= MOST_NIGHTS || land < 0 || land >= MOST_LANDS) {
            return false;
        }
        if (paint != NONE && !isPaint(paint)) {
            return false;
        }
        now.sightings.note(night, land, paint);
        return true;
    }

    public long weight(int showing, int map, int answer) {
        if (!playFor(showing, map)) {
            return NONE;
        }
        int pack = play.chart.answerPack(answer);
        return pack == NONE ? NONE : play.weigh(now.sightings, pack);
    }

    public int possible(int showing, int map, int what) {
        if (what < 0 || what > 2 || !playFor(showing, map)) {
            return NONE;
        }
        int possible = play.findPossible(now.sightings);
        switch (what) {
            case 0: return possible;
            case 1: return oneIf(possible > 0 && play.allAlike);
            default: return play.foundAnswer;
        }
    }

    public boolean shut(int map, int row, int swap) {
        Chart chart = now.chartAt(map);
        if (chart == null || !chart.hasRow(row) || !isSwap(swap)) {
            return false;
        }
        now.boxes.lay(map, packOf(swapRow(row, chart.lands, swap), chart.lands));
        return true;
    }

    public int ask(int border) {
        Chart chart = now.chartAt(now.boxes.map);
        if (chart == null || border < 0 || border >= chart.borders) {
            return NONE;
        }
        return now.boxes.open(chart.ones[border], chart.others[border]);
    }

    public int pulled(int land) {
        Chart chart = now.chartAt(now.boxes.map);
        if (land == NONE) {
            return oneIf(chart != null && now.boxes.sawAll(chart.lands) && chart.isPainted(now.boxes.pack));
        }
        if (chart == null || land < 0 || land >= chart.lands) {
            return NONE;
        }
        return now.boxes.seenOf(land);
    }

    public boolean lock(int a, int b, int c, int m, int r) {
        return now.lock.make(a, b, c, m, r);
    }

    public int shows(int paint, int draw) {
        if (!isPaint(paint) || draw < 0 || draw >= now.lock.draws) {
            return NONE;
        }
        return now.lock.shown(paint, draw);
    }

    public int locks(int what) {
        switch (what) {
            case 0: return oneIf(now.lock.doubled(0) == NONE);
            case 1: return oneIf(now.lock.smeared(0, 1) == 0 && now.lock.smeared(0, 2) == 0);
            case 2:
            case 3:
            case 4:
            case 5: return now.lock.doubled(what - 2);
            case 6: return now.lock.smeared(0, 1);
            case 7: return now.lock.smeared(0, 2);
            case 8: return now.lock.smeared(1, 2);
            default: return NONE;
        }
    }

    public int alone(int showing, int map, int g, int n, int what) {
        if (g < 0 || g > 99 || n < 1 || n > 100 || what < 0 || what > 2 || !playFor(showing, map)) {
            return NONE;
        }
        play.findFalse(g, n);
        switch (what) {
            case 0: return play.foundRow;
            case 1: return play.foundTry;
            default: return play.foundAsking;
        }
    }

    public int unlike(int showing, int one, int i, int other, int j) {
        Showing told = now.showingAt(showing);
        Chart first = now.chartAt(one);
        Chart second = now.chartAt(other);
        if (told == null || first == null || second == null) {
            return NONE;
        }
        if (first.borders != second.borders || first.borders == 0) {
            return NONE;
        }
        first.findAnswers();
        second.findAnswers();
        int pack = first.answerPack(i);
        int otherPack = second.answerPack(j);
        if (pack == NONE || otherPack == NONE) {
            return NONE;
        }
        return countUnlikeTalks(first, pack, second, otherPack, drawnSwaps(told.swap));
    }

    public boolean letters(int v) {
        if (v < 1 || v > MOST_LETTERS) {
            return false;
        }
        now.riddle.begin(v);
        return true;
    }

    public int row(int a, int b, int c) {
        return now.riddle.addRow(a, b, c);
    }

    public int riddle(int what) {
        switch (what) {
            case 0: return now.riddle.countSolving();
            case 1: return now.riddle.landsTurned();
            case 2: return now.riddle.bordersTurned();
            case 3: return now.riddle.countPaintings();
            default: break;
        }
        if (what < PAINTINGS_BY_BITS || what >= PAINTINGS_BY_BITS + now.riddle.ways()) {
            return NONE;
        }
        return now.riddle.paintingsBy(what - PAINTINGS_BY_BITS);
    }

    public int mended(int showing, int with, int without, int what) {
        Showing told = now.showingAt(showing);
        Chart painted = now.chartAt(with);
        Chart bare = now.chartAt(without);
        if (told == null || painted == null || bare == null || what < 0 || what > 4) {
            return NONE;
        }
        painted.findAnswers();
        bare.findAnswers();
        if (painted.answers == 0 || bare.answers > 0) {
            return NONE;
        }
        int mending = findMending(told, painted, bare);
        return mending == NONE ? NONE : partOfMending(told, mending, what);
    }

    public int image() {
        kept.become(now);
        return now.showingCount;
    }

    public int back() {
        now.become(kept);
        return now.showingCount;
    }

    public int about(int what) {
        switch (what) {
            case 0: return now.mapCount;
            case 1: return now.showingCount;
            case 2: return now.riddle.rows;
            case 3: return now.riddle.letterCount;
            case 4: return reader.length;
            case 5: return now.sightings.countNights();
            default: break;
        }
        if (what < 10 || what > 59) {
            return NONE;
        }
        return what < 30 ? aboutMap(what / 10, what % 10) : aboutShowing(what / 10, what % 10);
    }

    private int aboutMap(int ten, int map) {
        Chart chart = now.chartAt(map);
        if (chart == null) {
            return NONE;
        }
        return ten == 1 ? chart.lands : chart.borders;
    }

    private int aboutShowing(int ten, int number) {
        Showing told = now.showingAt(number);
        if (told == null) {
            return NONE;
        }
        switch (ten) {
            case 3: return told.swap;
            case 4: return oneIf(told.once);
            case 5: return told.asks;
            default: return NONE;
        }
    }

    /** Whether there are such a SHOWING and such a MAP; then play is of them. */
    private boolean playFor(int showing, int map) {
        Showing told = now.showingAt(showing);
        Chart chart = now.chartAt(map);
        if (told == null || chart == null) {
            return false;
        }
        chart.findAnswers();
        play.begin(chart, told.swap, told.once, told.asks, told.judge);
        return true;
    }

    /** Exact, as odds that are nearly like would deceive a double. */
    private int nightsUntil(int told) {
        odds.begin(told);
        whole.begin(1);
        for (int night = 1; night < Power.MOST_TIMES; night++) {
            odds.times(play.cheatCount);
            whole.times(play.askings);
            if (!odds.isAbove(whole)) {
                return night;
            }
        }
        return NONE;
    }

    /**
     * For a told c1 each c gives another c2, so all pairs of BORDERS come once; openings of
     * like paints never come, whichever ANSWER is known.
     */
    private static int countUnlikeTalks(Chart first, int pack, Chart second, int otherPack, int drawn) {
        int count = 0;
        for (int one = 0; one < first.borders; one++) {
            int ofFirst = first.openingsOf(one, pack, drawn);
            for (int other = 0; other < second.borders; other++) {
                int ofSecond = second.openingsOf(other, otherPack, drawn);
                count += unlikePairs(ofFirst, ofSecond);
            }
        }
        return count;
    }

    /**
     * No SWAP but 0 leaves two unlike paints as they are, so each opening comes by one SWAP at
     * most: a bit tells its odds.
     */
    private static int unlikePairs(int ofFirst, int ofSecond) {
        int first = Integer.bitCount(ofFirst);
        int second = Integer.bitCount(ofSecond);
        return first * (SWAPS - second) + (SWAPS - first) * second;
    }

    /** The mendings by how many are other, then by their number; NONE if none does. */
    private int findMending(Showing told, Chart painted, Chart bare) {
        for (int other = 0; other <= MOST_OTHER; other++) {
            for (int mending = 0; mending < MENDINGS; mending++) {
                if (partOfMending(told, mending, 0) == other && mends(told, painted, bare, mending)) {
                    return mending;
                }
            }
        }
        return NONE;
    }

    /** Mendings are numbered by swap, once, ask, judge, in this order. */
    private static int partOfMending(Showing told, int mending, int what) {
        int swap = SWAP_CHOICES[mending / 12 % SWAP_CHOICES.length];
        int once = mending / 6 % 2;
        int asks = mending / 2 % 3;
        int judge = mending % 2;
        switch (what) {
            case 0: return oneIf(swap != told.swap) + oneIf(once != oneIf(told.once))
                    + oneIf(asks != told.asks) + judge;
            case 1: return swap;
            case 2: return once;
            case 3: return asks;
            default: return judge;
        }
    }

    private boolean mends(Showing told, Chart painted, Chart bare, int mending) {
        int swap = partOfMending(told, mending, 1);
        boolean once = partOfMending(told, mending, 2) == 1;
        int asks = partOfMending(told, mending, 3);
        int[] judge = partOfMending(told, mending, 4) == 1 ? judgeUnlike : told.judge;
        play.begin(painted, swap, once, asks, judge);
        // What one night tells, two nights of the same ASKING tell too.
        if (play.findTelling(2) || play.countRefused() != 0) {
            return false;
        }
        play.begin(bare, swap, once, asks, judge);
        play.findCheat();
        return play.cheatCount < play.askings;
    }

    private static int oneIf(boolean so) {
        return so ? 1 : 0;
    }

    private static boolean isPaint(int paint) {
        return paint >= 0 && paint < PAINTS;
    }

    private static boolean isSwap(int swap) {
        return swap >= 0 && swap < SWAPS;
    }

    /** The SWAPS that may be drawn (0; 0 and 1; 0, 2 and 3; all), a bit each: they undo one another. */
    private static int drawnSwaps(int swap) {
        switch (swap) {
            case 2: return 3;
            case 3: return 13;
            case 6: return 63;
            default: return 1;
        }
    }

    private static int rowsOf(int lands) {
        int rows = 1;
        for (int land = 0; land < lands; land++) {
            rows *= PAINTS;
        }
        return rows;
    }

    /** A ROW as a pack: two bits a LAND, so that a paint is had without dividing. */
    private static int packOf(int row, int lands) {
        int pack = 0;
        int rest = row;
        for (int land = lands - 1; land >= 0; land--) {
            pack |= rest % PAINTS << 2 * land;
            rest /= PAINTS;
        }
        return pack;
    }

    private static int paintIn(int pack, int land) {
        return pack >> 2 * land & 3;
    }

    /** What two LANDS are opened as: 3 * a + b. */
    private static int openingOf(int pack, int x, int y) {
        return paintIn(pack, x) * PAINTS + paintIn(pack, y);
    }

    private static int swapRow(int row, int lands, int swap) {
        int made = 0;
        int place = 1;
        int rest = row;
        for (int land = 0; land < lands; land++) {
            made += SWAP_PAINTS[swap * PAINTS + rest % PAINTS] * place;
            rest /= PAINTS;
            place *= PAINTS;
        }
        return made;
    }

    /** The opening 3 * a + b, swapped. */
    private static int swapOpening(int opening, int swap) {
        int a = SWAP_PAINTS[swap * PAINTS + opening / PAINTS];
        return a * PAINTS + SWAP_PAINTS[swap * PAINTS + opening % PAINTS];
    }

    private static boolean hasBit(int bits, int bit) {
        return (bits >> bit & 1) == 1;
    }

    /** All that an image holds. */
    private static final class State {
        final Chart[] maps = new Chart[MOST_MAPS];
        final Showing[] showings = new Showing[MOST_SHOWINGS];
        final Sightings sightings = new Sightings();
        final Boxes boxes = new Boxes();
        final Lock lock = new Lock();
        final Riddle riddle = new Riddle();
        int mapCount;
        int showingCount;

        State() {
            for (int map = 0; map < maps.length; map++) {
                maps[map] = new Chart();
            }
            for (int number = 0; number < showings.length; number++) {
                showings[number] = new Showing();
            }
        }

        Chart chartAt(int map) {
            return map >= 0 && map < mapCount ? maps[map] : null;
        }

        Showing showingAt(int number) {
            return number >= 0 && number < showingCount ? showings[number] : null;
        }

        void become(State from) {
            mapCount = from.mapCount;
            for (int map = 0; map < mapCount; map++) {
                maps[map].become(from.maps[map]);
            }
            showingCount = from.showingCount;
            for (int number = 0; number < showingCount; number++) {
                showings[number].become(from.showings[number]);
            }
            sightings.become(from.sightings);
            boxes.become(from.boxes);
            lock.become(from.lock);
            riddle.become(from.riddle);
        }
    }

    /** A MAP, and its ANSWERS, which are kept as many calls want them. */
    private static final class Chart {
        final int[] ones = new int[MOST_BORDERS];
        final int[] others = new int[MOST_BORDERS];
        /** For each LAND its neighbours, a bit each. */
        private final int[] near = new int[MOST_LANDS];
        private final int[] turned = new int[MOST_LANDS];
        int lands;
        int borders;
        /** The ROWS of the ANSWERS, made when first wanted: a MAP of the image never needs them. */
        private int[] answerRows;
        private int[] answerPacks;
        int answers;
        private boolean answersStand;

        void begin(int count) {
            lands = count;
            borders = 0;
            answersStand = false;
            for (int land = 0; land < MOST_LANDS; land++) {
                near[land] = 0;
            }
        }

        void become(Chart from) {
            lands = from.lands;
            borders = from.borders;
            answersStand = false;
            System.arraycopy(from.ones, 0, ones, 0, MOST_BORDERS);
            System.arraycopy(from.others, 0, others, 0, MOST_BORDERS);
            System.arraycopy(from.near, 0, near, 0, MOST_LANDS);
        }

        boolean canJoin(int one, int other) {
            if (one < 0 || one >= lands || other < 0 || other >= lands || one == other) {
                return false;
            }
            return borders < MOST_BORDERS && !hasBit(near[one], other);
        }

        void join(int one, int other) {
            ones[borders] = one;
            others[borders] = other;
            near[one] |= 1 << other;
            near[other] |= 1 << one;
            borders++;
            answersStand = false;
        }

        boolean hasRow(int number) {
            return number >= 0 && number < rowsOf(lands);
        }

        /** Whether these paints are an ANSWER. */
        boolean isPainted(int pack) {
            for (int b = 0; b < borders; b++) {
                if (paintIn(pack, ones[b]) == paintIn(pack, others[b])) {
                    return false;
                }
            }
            return true;
        }

        /** Finds the ANSWERS, unless they stand. Whoever reads answers, answerRow, answerPack calls it ahead. */
        void findAnswers() {
            if (answersStand) {
                return;
            }
            if (answerRows == null || answerPacks == null) {
                answerRows = new int[MOST_ROWS];
                answerPacks = new int[MOST_ROWS];
            }
            answers = 0;
            int rows = Math.min(rowsOf(lands), MOST_ROWS);
            for (int number = 0; number < rows; number++) {
                int pack = packOf(number, lands);
                if (isPainted(pack)) {
                    answerRows[answers] = number;
                    answerPacks[answers] = pack;
                    answers++;
                }
            }
            answersStand = true;
        }

        int answerRow(int i) {
            return answersStand && i >= 0 && i < answers ? answerRows[i] : NONE;
        }

        int answerPack(int i) {
            return answersStand && i >= 0 && i < answers ? answerPacks[i] : NONE;
        }

        /** What a BORDER may be opened as, if these paints are swapped, a bit for each opening. */
        int openingsOf(int number, int pack, int drawn) {
            int opening = openingOf(pack, ones[number], others[number]);
            int openings = 0;
            for (int swap = 0; swap < SWAPS; swap++) {
                if (hasBit(drawn, swap)) {
                    openings |= 1 << swapOpening(opening, swap);
                }
            }
            return openings;
        }

        int countRings() {
            // Of two LANDS the way there and back would be taken for a ring.
            return lands < 3 ? 0 : ringsFrom(0, 1) / 2;
        }

        /** Ways from a LAND through all that are left and home to LAND 0. */
        private int ringsFrom(int land, int been) {
            if (been == (1 << lands) - 1) {
                return near[land] & 1;
            }
            int count = 0;
            for (int next = 1; next < lands; next++) {
                if (hasBit(near[land], next) && !hasBit(been, next)) {
                    count += ringsFrom(next, been | 1 << next);
                }
            }
            return count;
        }

        int countOrders() {
            int orders = 1;
            for (int factor = 2; factor <= lands; factor++) {
                orders *= factor;
            }
            return orders;
        }

        int countTurns(Chart to) {
            if (lands != to.lands || borders != to.borders) {
                return 0;
            }
            return turnsFrom(to, 0, 0);
        }

        /** Turns that go on from those of the LANDS below a LAND, which stand in turned. */
        private int turnsFrom(Chart to, int land, int used) {
            if (land >= lands) {
                return 1;
            }
            int count = 0;
            for (int place = 0; place < lands; place++) {
                if (!hasBit(used, place) && fits(to, land, place)) {
                    turned[land] = place;
                    count += turnsFrom(to, land + 1, used | 1 << place);
                }
            }
            return count;
        }

        private boolean fits(Chart to, int land, int place) {
            for (int before = 0; before < land; before++) {
                if (hasBit(near[land], before) != hasBit(to.near[place], turned[before])) {
                    return false;
                }
            }
            return true;
        }
    }

    /** A SHOWING; judge has, at 7 * x + y, the openings that are BELIEVED. */
    private static final class Showing {
        final int[] judge = new int[MOST_LANDS * MOST_LANDS];
        int swap;
        int asks;
        boolean once;

        void become(Showing from) {
            System.arraycopy(from.judge, 0, judge, 0, judge.length);
            swap = from.swap;
            asks = from.asks;
            once = from.once;
        }
    }

    /** The tape, and the reading of it. */
    private static final class Reader {
        /** TOKENS beside signs and NAMES, which are their own bytes, and those that JudgeCode has. */
        private static final int END = 0;
        private static final int NO_TOKEN = 1;
        private static final int WORD_SWAP = 10;
        private static final int WORD_ONCE = 11;
        private static final int WORD_ASK = 12;
        private static final int WORD_JUDGE = 13;
        /** The three of ask stand in the order of ASK_BORDERS, ASK_PAIRS, ASK_LANDS. */
        private static final int WORD_BORDERS = 14;
        private static final int WORD_PAIRS = 15;
        private static final int WORD_LANDS = 16;

        private static final int CANT_STAND = 1;
        private static final int WRONG_NUMBER = 2;
        private static final int TOO_DEEP = 3;
        private static final int SECOND_TIME = 4;

        private static final String SIGNS = "<>=#+-*();";
        private static final String NAMES = "abxy";

        private final int[] tape = new int[MOST_BYTES];
        private final int[] tokens = new int[MOST_BYTES + 1];
        private final int[] starts = new int[MOST_BYTES + 1];
        private final int[] numbers = new int[MOST_BYTES + 1];
        private final JudgeCode code = new JudgeCode();
        int length;
        int faultKind = NONE;
        int faultPlace = NONE;
        private int tokenCount;
        private int at;
        private int clausesRead;
        private int swap;
        private int asks;
        private boolean once;

        void takeFour(int four) {
            for (int shift = 24; shift >= 0; shift -= 8) {
                if (length < MOST_BYTES) {
                    tape[length] = four >> shift & 255;
                    length++;
                }
            }
        }

        void handOver(Showing made) {
            made.swap = swap;
            made.once = once;
            made.asks = asks;
            code.tabulate(made.judge);
        }

        /** Whether the tape is a SHOWING; else the fault is noted. */
        boolean readShowing() {
            faultKind = 0;
            faultPlace = NONE;
            clausesRead = 0;
            swap = 1;
            once = false;
            asks = ASK_BORDERS;
            code.clear();
            splitTape();
            for (int clause = 0; clause < MOST_BYTES && tokens[at] != END; clause++) {
                if (!readClause()) {
                    return false;
                }
            }
            return true;
        }

        private boolean fail(int kind) {
            faultKind = kind;
            faultPlace = starts[at];
            return false;
        }

        /** On to the next TOKEN; the end has none behind it. */
        private void step() {
            if (at < tokenCount) {
                at++;
            }
        }

        private boolean readClause() {
            int word = tokens[at];
            if (word < WORD_SWAP || word > WORD_JUDGE) {
                return fail(CANT_STAND);
            }
            if (hasBit(clausesRead, word)) {
                return fail(SECOND_TIME);
            }
            clausesRead |= 1 << word;
            step();
            boolean sound = true;
            switch (word) {
                case WORD_SWAP: sound = readSwap(); break;
                case WORD_ASK: sound = readAsk(); break;
                case WORD_JUDGE: sound = readEither(); break;
                default: once = true; break;
            }
            if (!sound) {
                return false;
            }
            if (tokens[at] != ';') {
                return fail(CANT_STAND);
            }
            step();
            return true;
        }

        private boolean readSwap() {
            if (tokens[at] != JudgeCode.NUMBER) {
                return fail(CANT_STAND);
            }
            int number = numbers[at];
            if (number != 1 && number != 2 && number != 3 && number != 6) {
                return fail(WRONG_NUMBER);
            }
            swap = number;
            step();
            return true;
        }

        private boolean readAsk() {
            int word = tokens[at];
            if (word < WORD_BORDERS || word > WORD_LANDS) {
                return fail(CANT_STAND);
            }
            asks = word - WORD_BORDERS;
            step();
            return true;
        }

        private boolean readEither() {
            if (!readBoth()) {
                return false;
            }
            for (int more = 0; more < MOST_BYTES && tokens[at] == JudgeCode.OR; more++) {
                step();
                if (!readBoth()) {
                    return false;
                }
                code.add(JudgeCode.OR, 0);
            }
            return true;
        }

        private boolean readBoth() {
            if (!readAsked(0)) {
                return false;
            }
            for (int more = 0; more < MOST_BYTES && tokens[at] == JudgeCode.AND; more++) {
                step();
                if (!readAsked(0)) {
                    return false;
                }
                code.add(JudgeCode.AND, 0);
            }
            return true;
        }

        /** open: how many of ( not and - are open around it. */
        private boolean readAsked(int open) {
            if (tokens[at] == JudgeCode.NOT) {
                if (open >= MOST_OPEN) {
                    return fail(TOO_DEEP);
                }
                step();
                if (!readAsked(open + 1)) {
                    return false;
                }
                code.add(JudgeCode.NOT, 0);
                return true;
            }
            if (!readSum(open)) {
                return false;
            }
            int compared = tokens[at];
            if (!JudgeCode.isComparison(compared)) {
                return fail(CANT_STAND);
            }
            step();
            if (!readSum(open)) {
                return false;
            }
            code.add(compared, 0);
            return true;
        }

        private boolean readSum(int open) {
            if (!readProduct(open)) {
                return false;
            }
            for (int more = 0; more < MOST_BYTES && (tokens[at] == '+' || tokens[at] == '-'); more++) {
                int sign = tokens[at];
                step();
                if (!readProduct(open)) {
                    return false;
                }
                code.add(sign, 0);
            }
            return true;
        }

        private boolean readProduct(int open) {
            if (!readOne(open)) {
                return false;
            }
            for (int more = 0; more < MOST_BYTES && tokens[at] == '*'; more++) {
                step();
                if (!readOne(open)) {
                    return false;
                }
                code.add('*', 0);
            }
            return true;
        }

        private boolean readOne(int open) {
            int token = tokens[at];
            if (token == '(' || token == '-') {
                return readOpened(open);
            }
            if (!JudgeCode.isValue(token)) {
                return fail(CANT_STAND);
            }
            if (token == JudgeCode.NUMBER && numbers[at] > HIGHEST_NUMBER) {
                return fail(WRONG_NUMBER);
            }
            code.add(token, numbers[at]);
            step();
            return true;
        }

        private boolean readOpened(int open) {
            if (open >= MOST_OPEN) {
                return fail(TOO_DEEP);
            }
            boolean less = tokens[at] == '-';
            step();
            if (less) {
                if (!readOne(open + 1)) {
                    return false;
                }
                code.add(JudgeCode.LESS, 0);
                return true;
            }
            if (!readSum(open + 1)) {
                return false;
            }
            if (tokens[at] != ')') {
                return fail(CANT_STAND);
            }
            step();
            return true;
        }

        /** All TOKENS of the tape, and the end behind them. */
        private void splitTape() {
            tokenCount = 0;
            at = 0;
            int place = 0;
            for (int more = 0; more < MOST_BYTES && place < length; more++) {
                if (tape[place] == ' ' || tape[place] == '\n') {
                    place++;
                } else {
                    starts[tokenCount] = place;
                    numbers[tokenCount] = 0;
                    place = splitToken(place);
                    tokenCount++;
                }
            }
            tokens[tokenCount] = END;
            starts[tokenCount] = length;
        }

        /** Takes the TOKEN that starts here; where it ends. */
        private int splitToken(int start) {
            if (isLetter(tape[start])) {
                return splitWord(start);
            }
            if (isDigit(tape[start])) {
                return splitNumber(start);
            }
            int first = tape[start];
            if ((first == '<' || first == '>') && start + 1 < length && tape[start + 1] == '=') {
                tokens[tokenCount] = first == '<' ? JudgeCode.NOT_ABOVE : JudgeCode.NOT_BELOW;
                return start + 2;
            }
            tokens[tokenCount] = SIGNS.indexOf((char) first) >= 0 ? first : NO_TOKEN;
            return start + 1;
        }

        private int splitWord(int start) {
            int end = start;
            while (end < length && isLetter(tape[end])) {
                end++;
            }
            tokens[tokenCount] = wordAt(start, end);
            return end;
        }

        private int splitNumber(int start) {
            int end = start;
            int number = 0;
            while (end < length && isDigit(tape[end])) {
                number = Math.min(number * 10 + tape[end] - '0', HIGHEST_NUMBER + 1);
                end++;
            }
            tokens[tokenCount] = JudgeCode.NUMBER;
            numbers[tokenCount] = number;
            return end;
        }

        private int wordAt(int start, int end) {
            if (end - start == 1) {
                return NAMES.indexOf((char) tape[start]) >= 0 ? tape[start] : NO_TOKEN;
            }
            if (spells(start, end, "or")) {
                return JudgeCode.OR;
            }
            if (spells(start, end, "and")) {
                return JudgeCode.AND;
            }
            if (spells(start, end, "not")) {
                return JudgeCode.NOT;
            }
            if (spells(start, end, "swap")) {
                return WORD_SWAP;
            }
            if (spells(start, end, "once")) {
                return WORD_ONCE;
            }
            if (spells(start, end, "ask")) {
                return WORD_ASK;
            }
            if (spells(start, end, "judge")) {
                return WORD_JUDGE;
            }
            if (spells(start, end, "borders")) {
                return WORD_BORDERS;
            }
            if (spells(start, end, "pairs")) {
                return WORD_PAIRS;
            }
            return spells(start, end, "lands") ? WORD_LANDS : NO_TOKEN;
        }

        private boolean spells(int start, int end, String word) {
            if (end - start != word.length()) {
                return false;
            }
            for (int i = 0; i < word.length(); i++) {
                if (tape[start + i] != word.charAt(i)) {
                    return false;
                }
            }
            return true;
        }

        private static boolean isLetter(int sign) {
            return sign >= 'a' && sign <= 'z' || sign >= 'A' && sign <= 'Z';
        }

        private static boolean isDigit(int sign) {
            return sign >= '0' && sign <= '9';
        }
    }

    /** What judge says, as steps on a stack: what is joined comes ahead of what joins it. */
    private static final class JudgeCode {
        private static final int HIGHEST = 1000000000;
        static final int NUMBER = 3;
        static final int NOT_ABOVE = 4;
        static final int NOT_BELOW = 5;
        static final int LESS = 6;
        static final int NOT = 7;
        static final int AND = 8;
        static final int OR = 9;

        private final int[] steps = new int[MOST_BYTES];
        private final int[] numbers = new int[MOST_BYTES];
        private final long[] stack = new long[MOST_BYTES];
        private int size;
        private int a;
        private int b;
        private int x;
        private int y;

        static boolean isComparison(int step) {
            return step == '<' || step == NOT_ABOVE || step == '>' || step == NOT_BELOW
                    || step == '=' || step == '#';
        }

        void clear() {
            size = 0;
        }

        void add(int step, int number) {
            if (size < MOST_BYTES) {
                steps[size] = step;
                numbers[size] = number;
                size++;
            }
        }

        /** Looked up for all LANDS and paints at once, as a SHOWING is judged far oftener than read. */
        void tabulate(int[] judge) {
            for (int pair = 0; pair < judge.length; pair++) {
                judge[pair] = size == 0 ? ALL_OPENINGS : openingsBelieved(pair);
            }
        }

        private int openingsBelieved(int pair) {
            x = pair / MOST_LANDS;
            y = pair % MOST_LANDS;
            int openings = 0;
            for (int opening = 0; opening < OPENINGS; opening++) {
                a = opening / PAINTS;
                b = opening % PAINTS;
                if (isSo()) {
                    openings |= 1 << opening;
                }
            }
            return openings;
        }

        private boolean isSo() {
            int top = 0;
            for (int at = 0; at < size; at++) {
                int step = steps[at];
                if (step == LESS || step == NOT) {
                    if (top > 0) {
                        stack[top - 1] = step == LESS ? -stack[top - 1] : 1 - stack[top - 1];
                    }
                } else if (isValue(step)) {
                    if (top < MOST_BYTES) {
                        stack[top] = valueOf(step, numbers[at]);
                        top++;
                    }
                } else if (top > 1) {
                    top--;
                    stack[top - 1] = joined(step, stack[top - 1], stack[top]);
                }
            }
            return top > 0 && stack[0] != 0;
        }

        static boolean isValue(int step) {
            return step == NUMBER || step == 'a' || step == 'b' || step == 'x' || step == 'y';
        }

        private long valueOf(int step, int number) {
            switch (step) {
                case 'a': return a;
                case 'b': return b;
                case 'x': return x;
                case 'y': return y;
                default: return number;
            }
        }

        private static long joined(int step, long left, long right) {
            switch (step) {
                case '+': return bounded(left + right);
                case '-': return bounded(left - right);
                case '*': return bounded(left * right);
                case '<': return oneIf(left < right);
                case NOT_ABOVE: return oneIf(left <= right);
                case '>': return oneIf(left > right);
                case NOT_BELOW: return oneIf(left >= right);
                case '=': return oneIf(left == right);
                case '#': return oneIf(left != right);
                case AND: return left & right;
                default: return left | right;
            }
        }

        private static long bounded(long value) {
            return Math.max(-HIGHEST, Math.min(HIGHEST, value));
        }
    }

    /** A SHOWING on a MAP, and the first of what was looked for there. */
    private static final class Play {
        private final int[] xs = new int[MOST_ASKINGS];
        private final int[] ys = new int[MOST_ASKINGS];
        /** For each ASKING the openings that are BELIEVED, a bit each. */
        private final int[] judged = new int[MOST_ASKINGS];
        /** For two openings (9 * first + second) the lowest two that SWAPS make of them. */
        private final int[] lowest = new int[OPENINGS * OPENINGS];
        /** For each ASKING and opening the SWAPS by which it isn't BELIEVED, a bit each. */
        private final int[] refusing = new int[MOST_ASKINGS * OPENINGS];
        Chart chart;
        private int drawn;
        private boolean once;
        int askings;
        int cheatCount;
        boolean allAlike;
        int foundRow;
        int foundAnswer;
        int foundAsking;
        int foundSecond;
        int foundSwap;
        int foundTry;

        void begin(Chart map, int swap, boolean drawnOnce, int asks, int[] judge) {
            chart = map;
            drawn = drawnSwaps(swap);
            once = drawnOnce;
            askings = 0;
            for (int b = 0; asks == ASK_BORDERS && b < map.borders; b++) {
                addAsking(map.ones[b], map.others[b], judge);
            }
            for (int x = 0; asks == ASK_LANDS && x < map.lands; x++) {
                addAsking(x, x, judge);
            }
            for (int x = 0; asks == ASK_PAIRS && x < map.lands; x++) {
                for (int y = x + 1; y < map.lands; y++) {
                    addAsking(x, y, judge);
                }
            }
        }

        private void addAsking(int x, int y, int[] judge) {
            int pair = x * MOST_LANDS + y;
            if (askings < MOST_ASKINGS && pair < judge.length) {
                xs[askings] = x;
                ys[askings] = y;
                judged[askings] = judge[pair];
                askings++;
            }
        }

        private void forgetFound() {
            foundRow = NONE;
            foundAnswer = NONE;
            foundAsking = NONE;
            foundSecond = NONE;
            foundSwap = NONE;
            foundTry = NONE;
        }

        boolean believes(int k, int opening) {
            return hasBit(judged[k], opening);
        }

        /** RIGHT; the first that isn't BELIEVED is found. */
        int countRefused() {
            forgetFound();
            fillRefusing();
            int count = 0;
            for (int i = 0; i < chart.answers; i++) {
                int pack = chart.answerPack(i);
                for (int k = 0; k < askings; k++) {
                    int swaps = refusing[k * OPENINGS + openingOf(pack, xs[k], ys[k])];
                    if (swaps != 0 && count == 0) {
                        foundAnswer = i;
                        foundAsking = k;
                        foundSwap = Integer.numberOfTrailingZeros(swaps);
                    }
                    count += Integer.bitCount(swaps);
                }
            }
            return count;
        }

        private void fillRefusing() {
            for (int k = 0; k < askings; k++) {
                for (int opening = 0; opening < OPENINGS; opening++) {
                    int swaps = 0;
                    for (int swap = 0; swap < SWAPS; swap++) {
                        if (!believes(k, swapOpening(opening, swap))) {
                            swaps |= 1 << swap;
                        }
                    }
                    refusing[k * OPENINGS + opening] = swaps & drawn;
                }
            }
        }

        void findCheat() {
            forgetFound();
            cheatCount = NONE;
            int rows = rowsOf(chart.lands);
            for (int number = 0; number < rows && cheatCount < askings; number++) {
                int count = countBelieved(packOf(number, chart.lands));
                if (count > cheatCount) {
                    cheatCount = count;
                    foundRow = number;
                }
            }
        }

        private int countBelieved(int pack) {
            int count = 0;
            for (int k = 0; k < askings; k++) {
                count += judged[k] >> openingOf(pack, xs[k], ys[k]) & 1;
            }
            return count;
        }

        /** TELLS: whether it does; ASKINGS and ANSWER are found. */
        boolean findTelling(int n) {
            forgetFound();
            fillLowest();
            if (n == 2 && once) {
                return findTellingPair();
            }
            for (int k = 0; k < askings; k++) {
                foundAnswer = firstTold(k, k);
                if (foundAnswer != NONE) {
                    // Of nights drawn anew two tell just if one of them does by itself.
                    foundAsking = n == 2 ? 0 : k;
                    foundSecond = n == 2 ? k : NONE;
                    return true;
                }
            }
            return false;
        }

        private boolean findTellingPair() {
            for (int k = 0; k < askings; k++) {
                for (int second = 0; second < askings; second++) {
                    foundAnswer = firstTold(k, second);
                    if (foundAnswer != NONE) {
                        foundAsking = k;
                        foundSecond = second;
                        return true;
                    }
                }
            }
            return false;
        }

        /**
         * The SWAPS that may be drawn undo one another, so two openings are as likely all along
         * just if the same lowest one can be made of them.
         */
        private void fillLowest() {
            for (int two = 0; two < lowest.length; two++) {
                lowest[two] = lowest.length;
                for (int swap = 0; swap < SWAPS; swap++) {
                    if (hasBit(drawn, swap)) {
                        int made = swapOpening(two / OPENINGS, swap) * OPENINGS
                                + swapOpening(two % OPENINGS, swap);
                        lowest[two] = Math.min(lowest[two], made);
                    }
                }
            }
        }

        /** The first ANSWER that, by two ASKINGS of one drawing, isn't opened as ANSWER 0 is; NONE. */
        private int firstTold(int k, int second) {
            int lowestOfFirst = NONE;
            for (int i = 0; i < chart.answers; i++) {
                int pack = chart.answerPack(i);
                int opening = openingOf(pack, xs[k], ys[k]);
                int made = lowest[opening * OPENINGS + openingOf(pack, xs[second], ys[second])];
                if (i == 0) {
                    lowestOfFirst = made;
                } else if (made != lowestOfFirst) {
                    return i;
                }
            }
            return NONE;
        }

        long weigh(Sightings sightings, int pack) {
            return sightings.waysToSee(pack, chart.lands, drawn, once);
        }

        /** How many are POSSIBLE; the lowest is found, and whether all are one but for SWAPS. */
        int findPossible(Sightings sightings) {
            forgetFound();
            allAlike = true;
            int count = 0;
            for (int i = 0; i < chart.answers; i++) {
                if (weigh(sightings, chart.answerPack(i)) > 0) {
                    if (count == 0) {
                        foundAnswer = i;
                    }
                    allAlike = allAlike && isSwapOf(chart.answerRow(i), chart.answerRow(foundAnswer));
                    count++;
                }
            }
            return count;
        }

        private boolean isSwapOf(int one, int other) {
            for (int swap = 0; swap < SWAPS; swap++) {
                if (swapRow(other, chart.lands, swap) == one) {
                    return true;
                }
            }
            return false;
        }

        /** FALSE ONE; ROW, try and ASKING are found. */
        void findFalse(int g, int tries) {
            forgetFound();
            int rows = rowsOf(chart.lands);
            for (int number = 0; number < rows && foundRow == NONE; number++) {
                int pack = packOf(number, chart.lands);
                if (!chart.isPainted(pack) && isFalseBelieved(pack, g, tries)) {
                    foundRow = number;
                }
            }
        }

        private boolean isFalseBelieved(int pack, int g, int tries) {
            if (askings == 0) {
                return false;
            }
            int sum = 0;
            for (int land = 0; land < chart.lands; land++) {
                sum += (land + 1) * paintIn(pack, land) * g;
            }
            // After as many tries as there are ASKINGS the same ones come again.
            int different = Math.min(tries, askings);
            for (int t = 0; t < different; t++) {
                int k = (sum + t) % askings;
                if (believes(k, openingOf(pack, xs[k], ys[k]))) {
                    foundTry = t;
                    foundAsking = k;
                    return true;
                }
            }
            return false;
        }
    }

    /** NIGHTS SEEN. */
    private static final class Sightings {
        /** For each night the LANDS that are SEEN, a bit each. */
        private final int[] seen = new int[MOST_NIGHTS];
        private final int[] paints = new int[MOST_NIGHTS * MOST_LANDS];

        void note(int night, int land, int paint) {
            if (paint == NONE) {
                seen[night] &= ~(1 << land);
            } else {
                seen[night] |= 1 << land;
                paints[night * MOST_LANDS + land] = paint;
            }
        }

        void become(Sightings from) {
            System.arraycopy(from.seen, 0, seen, 0, seen.length);
            System.arraycopy(from.paints, 0, paints, 0, paints.length);
        }

        int countNights() {
            int count = 0;
            for (int night = 0; night < MOST_NIGHTS; night++) {
                count += oneIf(seen[night] != 0);
            }
            return count;
        }

        long waysToSee(int pack, int lands, int drawn, boolean once) {
            long ways = 1;
            int all = drawn;
            int ofTheMap = (1 << lands) - 1;
            for (int night = 0; night < MOST_NIGHTS && ways > 0; night++) {
                if ((seen[night] & ofTheMap) != 0) {
                    int making = swapsMaking(night, pack, lands, drawn);
                    ways *= Integer.bitCount(making);
                    all &= making;
                }
            }
            return once ? Integer.bitCount(all) : ways;
        }

        /** Of the SWAPS drawn those that make a night as it was SEEN. */
        private int swapsMaking(int night, int pack, int lands, int drawn) {
            int making = drawn;
            for (int land = 0; land < lands; land++) {
                if (hasBit(seen[night], land)) {
                    making &= SWAPS_TAKING[paintIn(pack, land) * PAINTS + paints[night * MOST_LANDS + land]];
                }
            }
            return making;
        }
    }

    /** A ROW in boxes, and what was PULLED. */
    private static final class Boxes {
        int map = NONE;
        int pack;
        private int seen;

        void lay(int number, int laid) {
            map = number;
            pack = laid;
            seen = 0;
        }

        void become(Boxes from) {
            map = from.map;
            pack = from.pack;
            seen = from.seen;
        }

        int open(int one, int other) {
            seen |= 1 << one | 1 << other;
            return Integer.bitCount(seen);
        }

        boolean sawAll(int lands) {
            return seen == (1 << lands) - 1;
        }

        int seenOf(int land) {
            return hasBit(seen, land) ? paintIn(pack, land) : NONE;
        }
    }

    /** A LOCK. */
    private static final class Lock {
        private static final int MOST_FACTOR = 63;
        private static final int MOST_NUMBERS = 64;
        private static final int MOST_DRAWS = 32;

        private int a = 1;
        private int b;
        private int c;
        private int numbers = 3;
        int draws = 1;

        private static boolean isFactor(int factor) {
            return factor >= 0 && factor <= MOST_FACTOR;
        }

        boolean make(int byPaint, int byDraw, int byBoth, int m, int r) {
            if (!isFactor(byPaint) || !isFactor(byDraw) || !isFactor(byBoth)) {
                return false;
            }
            if (m < 1 || m > MOST_NUMBERS || r < 1 || r > MOST_DRAWS) {
                return false;
            }
            a = byPaint;
            b = byDraw;
            c = byBoth;
            numbers = m;
            draws = r;
            return true;
        }

        void become(Lock from) {
            a = from.a;
            b = from.b;
            c = from.c;
            numbers = from.numbers;
            draws = from.draws;
        }

        int shown(int paint, int draw) {
            return numbers < 1 ? NONE : (a * paint + b * draw + c * paint * draw) % numbers;
        }

        /** DOUBLED: 0 the PAINT, 1 the DRAW, 2 the other PAINT, 3 its DRAW; NONE if it HOLDS. */
        int doubled(int part) {
            for (int paint = 0; paint < PAINTS; paint++) {
                for (int draw = 0; draw < draws; draw++) {
                    int number = shown(paint, draw);
                    for (int other = 0; other < PAINTS; other++) {
                        int otherDraw = firstShowing(other, number);
                        if (other != paint && otherDraw != NONE) {
                            return chosen(part, paint, draw, other, otherDraw);
                        }
                    }
                }
            }
            return NONE;
        }

        private static int chosen(int part, int paint, int draw, int other, int otherDraw) {
            switch (part) {
                case 0: return paint;
                case 1: return draw;
                case 2: return other;
                default: return otherDraw;
            }
        }

        private int firstShowing(int paint, int number) {
            for (int draw = 0; draw < draws; draw++) {
                if (shown(paint, draw) == number) {
                    return draw;
                }
            }
            return NONE;
        }

        int smeared(int one, int other) {
            int sum = 0;
            for (int number = 0; number < numbers; number++) {
                sum += Math.max(0, drawsShowing(one, number) - drawsShowing(other, number));
            }
            return sum;
        }

        private int drawsShowing(int paint, int number) {
            int count = 0;
            for (int draw = 0; draw < draws; draw++) {
                count += oneIf(shown(paint, draw) == number);
            }
            return count;
        }
    }

    /** The YES RIDDLE. */
    private static final class Riddle {
        private final int[] signs = new int[MOST_RIDDLE_ROWS * SIGNS_OF_A_ROW];
        int letterCount = 1;
        int rows;

        void begin(int count) {
            letterCount = count;
            rows = 0;
        }

        void become(Riddle from) {
            System.arraycopy(from.signs, 0, signs, 0, signs.length);
            letterCount = from.letterCount;
            rows = from.rows;
        }

        private boolean isSign(int sign) {
            return sign != 0 && sign >= -letterCount && sign <= letterCount;
        }

        int addRow(int first, int second, int third) {
            if (rows >= MOST_RIDDLE_ROWS || !isSign(first) || !isSign(second) || !isSign(third)) {
                return NONE;
            }
            signs[rows * SIGNS_OF_A_ROW] = first;
            signs[rows * SIGNS_OF_A_ROW + 1] = second;
            signs[rows * SIGNS_OF_A_ROW + 2] = third;
            rows++;
            return rows - 1;
        }

        int ways() {
            return 1 << letterCount;
        }

        int landsTurned() {
            return 3 + 2 * letterCount + 6 * rows;
        }

        int bordersTurned() {
            return 3 + 3 * letterCount + 12 * rows;
        }

        int countSolving() {
            int count = 0;
            for (int bits = 0; bits < ways(); bits++) {
                count += oneIf(isSolvedBy(bits));
            }
            return count;
        }

        private boolean isSolvedBy(int bits) {
            for (int k = 0; k < rows; k++) {
                // A sign that is so has the paint of yes, which is 0.
                if (signPaint(k, 0, bits) * signPaint(k, 1, bits) * signPaint(k, 2, bits) != 0) {
                    return false;
                }
            }
            return true;
        }

        /** What the LAND of a sign is painted: 0 where the sign is so, 1 where it isn't. */
        private int signPaint(int k, int i, int bits) {
            int sign = signs[k * SIGNS_OF_A_ROW + i];
            boolean yes = hasBit(bits, Math.abs(sign) - 1);
            return oneIf(yes != sign > 0);
        }

        int countPaintings() {
            int count = 0;
            for (int bits = 0; bits < ways(); bits++) {
                count += paintingsBy(bits);
            }
            return count;
        }

        /** With all letters told, the six LANDS of each row are painted for themselves. */
        int paintingsBy(int bits) {
            int count = 1;
            for (int k = 0; k < rows; k++) {
                count *= paintingsOfRow(signPaint(k, 0, bits), signPaint(k, 1, bits), signPaint(k, 2, bits));
            }
            return count;
        }

        /** p, q, r are neighbours all, and so are s, t, u: each three is painted as a SWAP is. */
        private static int paintingsOfRow(int first, int second, int third) {
            int count = 0;
            for (int left = 0; left < SWAPS * PAINTS; left += PAINTS) {
                boolean fitsLeft = SWAP_PAINTS[left] != first && SWAP_PAINTS[left + 1] != second;
                for (int end = 0; end < SWAPS * PAINTS; end += PAINTS) {
                    boolean fitsEnd = SWAP_PAINTS[end + 1] != third && SWAP_PAINTS[end + 2] == 0;
                    boolean fitsBetween = SWAP_PAINTS[left + 2] != SWAP_PAINTS[end];
                    count += oneIf(fitsLeft && fitsEnd && fitsBetween);
                }
            }
            return count;
        }
    }

    /** A whole number without a bound that nights could reach: six digits a place, lowest first. */
    private static final class Power {
        /** 20 of 21 ASKINGS, the best odds of a cheat who may fail, need 425 nights for 1 in 1000000000. */
        static final int MOST_TIMES = 500;
        private static final int BASE = 1000000;
        private static final int MOST_PLACES = 120;

        private final int[] places = new int[MOST_PLACES];
        private int size;

        void begin(int value) {
            size = 0;
            int rest = value;
            while (rest > 0 && size < MOST_PLACES) {
                places[size] = rest % BASE;
                rest /= BASE;
                size++;
            }
        }

        void times(int factor) {
            int carry = 0;
            for (int at = 0; at < size; at++) {
                int product = places[at] * factor + carry;
                places[at] = product % BASE;
                carry = product / BASE;
            }
            if (carry > 0 && size < MOST_PLACES) {
                places[size] = carry;
                size++;
            }
            while (size > 0 && places[size - 1] == 0) {
                size--;
            }
        }

        boolean isAbove(Power other) {
            if (size != other.size) {
                return size > other.size;
            }
            for (int at = size - 1; at >= 0; at--) {
                if (places[at] != other.places[at]) {
                    return places[at] > other.places[at];
                }
            }
            return false;
        }
    }
}
