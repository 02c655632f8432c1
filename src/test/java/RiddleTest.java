/** Promises 28 to 31: the YES RIDDLE, and MENDED. */
public final class RiddleTest {
    private static void letters() {
        ShownNot x = new ShownNot();
        for (int v : new int[] {0, -1, 4, Integer.MIN_VALUE, Integer.MAX_VALUE}) {
            Check.due("letters(" + v + ")", x.letters(v), false);
        }
        Check.due("one letter yet", x.about(3), 1);
        x.row(1, 1, 1);
        Check.due("letters(4) with a row", x.letters(4), false);
        Check.due("the row stays", x.about(2), 1);
        for (int v = 1; v <= 3; v++) {
            Check.due("letters(" + v + ")", x.letters(v), true);
            Check.due("so many letters", x.about(3), v);
            Check.due("no rows", x.about(2), 0);
            Check.due("the last letter", x.row(v, -v, 1), 0);
        }
    }

    private static void rows() {
        ShownNot x = new ShownNot();
        x.letters(2);
        int[][] wrong = {{0, 1, 1}, {1, 0, 1}, {1, 1, 0}, {3, 1, 1}, {1, 3, 1}, {1, 1, 3}, {-3, 1, 1}, {1, -3, 1},
            {1, 1, -3}, {Integer.MIN_VALUE, 1, 1}, {1, Integer.MAX_VALUE, 1}};
        for (int[] w : wrong) {
            Check.due("row(" + w[0] + ", " + w[1] + ", " + w[2] + ")", x.row(w[0], w[1], w[2]), -1);
        }
        Check.due("no rows", x.about(2), 0);
        for (int k = 0; k < 3; k++) {
            Check.due("row " + k, x.row(1, -2, 2), k);
        }
        Check.due("a fourth", x.row(1, 1, 1), -1);
        Check.due("three rows", x.about(2), 3);
    }

    private static void riddle(ShownNot x, int ways, int lands, int borders, int... byBits) {
        int sum = 0;
        for (int bits = 0; bits < byBits.length; bits++) {
            Check.due("PAINTINGS by " + bits, x.riddle(1000 + bits), byBits[bits]);
            sum += byBits[bits];
        }
        Check.due("ways", x.riddle(0), ways);
        Check.due("LANDS", x.riddle(1), lands);
        Check.due("BORDERS", x.riddle(2), borders);
        Check.due("PAINTINGS", x.riddle(3), sum);
        Check.due("bits too many", x.riddle(1000 + byBits.length), -1);
    }

    private static void riddles() {
        ShownNot x = new ShownNot();
        riddle(x, 2, 5, 6, 1, 1);
        x.letters(3);
        riddle(x, 8, 9, 12, 1, 1, 1, 1, 1, 1, 1, 1);
        x.letters(1);
        x.row(-1, -1, -1);
        riddle(x, 1, 11, 18, 4, 0);
        x.row(1, 1, 1);
        riddle(x, 0, 17, 30, 0, 0);
        x.letters(3);
        // u is 0. The third sign not so: s is 1, and r isn't; so: s is 1 or 2. The first two so:
        // r is 0, in two ways; neither so: r is 1, in two ways; one so: r is each, in one way.
        x.row(1, 2, 3);
        riddle(x, 7, 15, 24, 0, 2, 2, 2, 2, 4, 4, 4);
        x.row(1, 2, 3);
        x.row(-1, -2, -3);
        riddle(x, 6, 27, 48, 0, 16, 16, 8, 8, 32, 32, 0);
        for (int what : new int[] {-1, 4, 999, 1008, Integer.MIN_VALUE, Integer.MAX_VALUE}) {
            Check.due("riddle(" + what + ")", x.riddle(what), -1);
        }
    }

    private static void mended(String text, int map, int... want) {
        ShownNot x = new ShownNot();
        Check.map(x, 3, "01 12 02");
        Check.map(x, 4, "01 02 03 12 13 23");
        Check.map(x, 3, "01 12");
        Check.map(x, 5, "");
        Check.show(x, text);
        for (int what = 0; what < 5; what++) {
            Check.due("mended of " + text + " on " + map + ", " + what, x.mended(0, map, 1, what),
                    want.length == 0 ? -1 : want[what]);
        }
    }

    private static void mending() {
        mended("swap 6;judge a#b;", 0, 0, 6, 0, 0, 0);
        mended("swap 6;once;judge a#b;", 0, 0, 6, 1, 0, 0);
        // On a way, once tells: it is drawn anew.
        mended("swap 6;once;judge a#b;", 2, 1, 6, 0, 0, 0);
        mended("judge a#b;", 0, 1, 6, 0, 0, 0);
        mended("", 0, 2, 6, 0, 0, 1);
        mended("swap 6;once;ask lands;judge a=b;", 2, 3, 6, 0, 0, 1);
        // Pairs of a triangle are its BORDERS; on a way they tell.
        mended("swap 6;ask pairs;judge a#b;", 0, 0, 6, 0, 1, 0);
        mended("swap 6;ask pairs;judge a#b;", 2, 1, 6, 0, 0, 0);
        // Without BORDERS nothing is asked of who has an ANSWER.
        mended("judge a#b;", 3, 0, 1, 0, 0, 0);
        mended("ask lands;once;", 3, 2, 1, 1, 0, 1);
        // One opening alone is refused to all: on a way only a#b is right.
        mended("swap 6;judge a#0 or b#1;", 2, 1, 6, 0, 0, 1);
    }

    private static void mendingOthers() {
        ShownNot x = new ShownNot();
        Check.map(x, 3, "01 12 02");
        Check.map(x, 4, "01 02 03 12 13 23");
        Check.show(x, "judge a#b;");
        Check.due("MAPS the wrong way", x.mended(0, 1, 0, 0), -1);
        Check.due("both have ANSWERS", x.mended(0, 0, 0, 0), -1);
        Check.due("none has", x.mended(0, 1, 1, 0), -1);
        Check.due("what 5", x.mended(0, 0, 1, 5), -1);
        Check.due("what -1", x.mended(0, 0, 1, -1), -1);
        Check.due("no such SHOWING", x.mended(1, 0, 1, 0), -1);
        Check.due("no such MAP", x.mended(0, 2, 1, 0), -1);
        Check.due("no such other MAP", x.mended(0, 0, 2, 0), -1);
        Check.due("the SHOWING stays", x.about(30), 1);
        Check.due("no SHOWING comes", x.about(1), 1);
    }

    public static void main(String[] args) {
        letters();
        rows();
        riddles();
        mending();
        mendingOthers();
        Check.finish();
    }
}
