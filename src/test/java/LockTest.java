/** Promises 23 to 27: LOCKS, ALONE and UNLIKE. */
public final class LockTest {
    private static void lock() {
        ShownNot x = new ShownNot();
        Check.due("the most", x.lock(63, 63, 63, 64, 32), true);
        Check.due("it shows", x.shows(2, 31), (63 * 2 + 63 * 31 + 63 * 62) % 64);
        Check.due("the least", x.lock(0, 0, 0, 1, 1), true);
        Check.due("it shows 0", x.shows(2, 0), 0);
        x.lock(5, 3, 2, 11, 4);
        int[][] wrong = {{64, 0, 0, 1, 1}, {0, 64, 0, 1, 1}, {0, 0, 64, 1, 1}, {0, 0, 0, 65, 1}, {0, 0, 0, 1, 33},
            {-1, 0, 0, 1, 1}, {0, -1, 0, 1, 1}, {0, 0, -1, 1, 1}, {0, 0, 0, 0, 1}, {0, 0, 0, 1, 0}};
        for (int[] w : wrong) {
            Check.due("wrong lock", x.lock(w[0], w[1], w[2], w[3], w[4]), false);
        }
        Check.due("nothing changed", x.shows(2, 3), (10 + 9 + 12) % 11);
        Check.due("DRAW 4 of 4", x.shows(0, 4), -1);
        Check.due("DRAW -1", x.shows(0, -1), -1);
        Check.due("PAINT 3", x.shows(3, 0), -1);
        Check.due("PAINT -1", x.shows(-1, 0), -1);
    }

    private static void locks(ShownNot x, int... want) {
        for (int what = 0; what < 9; what++) {
            Check.due("locks(" + what + ")", x.locks(what), want[what]);
        }
    }

    private static void locks() {
        ShownNot x = new ShownNot();
        locks(x, 1, 0, -1, -1, -1, -1, 1, 1, 1);
        // 0 3; 1 4; 2 5: holds, and each paint shows two numbers of its own.
        x.lock(1, 3, 0, 64, 2);
        locks(x, 1, 0, -1, -1, -1, -1, 2, 2, 2);
        // 0 1 2 each: hides, and what 0 shows first paint 1 shows as DRAW 2.
        x.lock(1, 1, 0, 3, 3);
        locks(x, 0, 1, 0, 0, 1, 2, 0, 0, 0);
        // 0 2 4; 3 0 2 of 5: 0 is shown by DRAW 1 of PAINT 1; PAINT 2 shows 1 3 0.
        x.lock(3, 2, 0, 5, 3);
        locks(x, 0, 0, 0, 0, 1, 1, 1, 2, 1);
        // 0 0; 1 2; 2 4 of 5: paint 0 is alone; 2 is DRAW 1 of 1 and DRAW 0 of 2.
        x.lock(1, 0, 1, 5, 2);
        locks(x, 0, 0, 1, 1, 2, 0, 2, 2, 1);
        // 0; 2; 0 of 4: PAINTS 0 and 2 are alike, PAINT 1 isn't.
        x.lock(2, 0, 0, 4, 1);
        locks(x, 0, 0, 0, 0, 2, 0, 1, 0, 1);
        // All DRAWS of all PAINTS show 0.
        x.lock(0, 0, 0, 1, 32);
        locks(x, 0, 1, 0, 0, 1, 0, 0, 0, 0);
        Check.due("locks(9)", x.locks(9), -1);
        Check.due("locks(-1)", x.locks(-1), -1);
    }

    private static void alone(ShownNot x, int showing, int g, int n, int... want) {
        for (int what = 0; what < 3; what++) {
            Check.due("alone by " + showing + ", " + g + ", " + n + ", " + what,
                    x.alone(showing, 0, g, n, what), want[what]);
        }
    }

    private static void alone() {
        ShownNot x = new ShownNot();
        Check.map(x, 3, "01 12");
        Check.map(x, 2, "");
        Check.show(x, "judge a#b;");
        Check.show(x, "judge 1=2;");
        Check.show(x, "ask lands;judge a=2 and x=1;");
        Check.show(x, "");
        // 000 is never BELIEVED; 001 by BORDER 1, which is 3 mod 2.
        alone(x, 0, 1, 1, 1, 0, 1);
        // With G 0 it is BORDER 0, so 001 needs a second try.
        alone(x, 0, 0, 2, 1, 1, 1);
        // With one try it is 011 by BORDER 0.
        alone(x, 0, 0, 1, 4, 0, 0);
        alone(x, 1, 1, 100, -1, -1, -1);
        // What is always BELIEVED is so by the lowest ROW.
        alone(x, 3, 99, 100, 0, 0, 0);
        // 020 is an ANSWER; 022 has (2 * 2 + 3 * 2) mod 3 = LAND 1 at try 0.
        alone(x, 2, 1, 1, 8, 0, 1);
        // With G 0 LAND 1 is the second try.
        alone(x, 2, 99, 1, -1, -1, -1);
        alone(x, 2, 99, 2, 8, 1, 1);
        Check.due("all ROWS are ANSWERS", x.alone(2, 1, 1, 100, 0), -1);
        Check.due("without ASKINGS", x.alone(0, 1, 1, 100, 0), -1);
        Check.due("G 100", x.alone(0, 0, 100, 1, 0), -1);
        Check.due("G -1", x.alone(0, 0, -1, 1, 0), -1);
        Check.due("n 0", x.alone(0, 0, 1, 0, 0), -1);
        Check.due("n 101", x.alone(0, 0, 1, 101, 0), -1);
        Check.due("n 100", x.alone(0, 0, 99, 100, 0), 1);
        Check.due("what 3", x.alone(0, 0, 1, 1, 3), -1);
        Check.due("what -1", x.alone(0, 0, 1, 1, -1), -1);
        Check.due("no such SHOWING", x.alone(4, 0, 1, 1, 0), -1);
        Check.due("no such MAP", x.alone(0, 2, 1, 1, 0), -1);
    }

    private static void unlike() {
        ShownNot x = new ShownNot();
        Check.map(x, 3, "01 12 02");
        Check.map(x, 4, "01 12 23");
        Check.map(x, 2, "01");
        Check.map(x, 5, "");
        Check.show(x, "");
        Check.show(x, "swap 2;once;ask pairs;");
        Check.show(x, "swap 3;");
        Check.show(x, "swap 6;");
        // Of 36 pairs of unlike openings just one side comes in s * (6 - s) * 2, for each of m * m.
        int[] each = {10, 16, 18, 0};
        for (int showing = 0; showing < 4; showing++) {
            Check.due("three BORDERS each, " + showing, x.unlike(showing, 0, 0, 1, 5), 9 * each[showing]);
            Check.due("one BORDER, " + showing, x.unlike(showing, 2, 1, 2, 4), each[showing]);
        }
        Check.due("unlike numbers of BORDERS", x.unlike(0, 0, 0, 2, 0), -1);
        Check.due("without any", x.unlike(0, 3, 0, 3, 0), -1);
        Check.due("no such ANSWER of the first", x.unlike(0, 0, 6, 1, 0), -1);
        Check.due("no such ANSWER of the second", x.unlike(0, 0, 0, 1, 24), -1);
        Check.due("ANSWER -1", x.unlike(0, 0, -1, 1, 0), -1);
        Check.due("ANSWER -1 of the second", x.unlike(0, 0, 0, 1, -1), -1);
        Check.due("no such SHOWING", x.unlike(4, 0, 0, 1, 0), -1);
        Check.due("no such first MAP", x.unlike(0, 4, 0, 1, 0), -1);
        Check.due("no such second MAP", x.unlike(0, 0, 0, 4, 0), -1);
    }

    public static void main(String[] args) {
        lock();
        locks();
        alone();
        unlike();
        Check.finish();
    }
}
