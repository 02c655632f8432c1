/** Promises 12 to 16: BELIEVED, RIGHT, CHEAT, NIGHTS and TELLS. */
public final class PlayTest {
    private static void judged(String judge, int a, int b, int want) {
        ShownNot x = new ShownNot();
        // ASKING 0 has x 4 and y 2.
        Check.map(x, 7, "42");
        Check.show(x, "judge " + judge + ";");
        Check.due(judge + " by " + a + ", " + b, x.believed(0, 0, 0, a, b), want);
    }

    private static void judging() {
        judged("a#b", 1, 1, 0);
        judged("a#b", 1, 2, 1);
        judged("x=4 and y=2", 0, 0, 1);
        judged("a<b", 0, 1, 1);
        judged("a<b", 1, 1, 0);
        judged("a<=b", 1, 1, 1);
        judged("a>b", 2, 1, 1);
        judged("a>=b", 1, 2, 0);
        judged("a>=b", 2, 2, 1);
        judged("a-b-1=0-2", 1, 2, 1);
        judged("1-1-1=0-1", 0, 0, 1);
        judged("2+3*4=14", 0, 0, 1);
        judged("(2+3)*4=20", 0, 0, 1);
        judged("-x*y=0-8", 0, 0, 1);
        judged("--x=4", 0, 0, 1);
        judged("not a=b", 1, 1, 0);
        judged("not not a=b", 1, 1, 1);
        judged("not a=b or a=1", 1, 1, 1);
        judged("not a=1 and b=1", 1, 2, 0);
        judged("1=1 or 1=1 and 1=2", 0, 0, 1);
        judged("1=2 and 1=2 or 1=1", 0, 0, 1);
        judged("1=2 and 1=2 or 1=2", 0, 0, 0);
    }

    private static void bounds() {
        String most = "9999*9999*9999";
        judged(most + "=" + most + "+1", 0, 0, 1);
        judged("-" + most + "=-9999*9999*9999-1", 0, 0, 1);
        judged(most + "-" + most + "=0", 0, 0, 1);
        judged(most + "-1+1=" + most, 0, 0, 1);
        judged(most + "+1-1<" + most, 0, 0, 1);
        judged(most + "*0=0", 0, 0, 1);
        judged("1000*1000*1000=" + most, 0, 0, 1);
        judged("1000*1000*1000-1<" + most, 0, 0, 1);
        judged(most + "*" + "(" + most + ")=1000*1000*1000", 0, 0, 1);
        judged(most + "*-(" + most + ")=-1000*1000*1000", 0, 0, 1);
    }

    private static void believed() {
        ShownNot x = new ShownNot();
        Check.map(x, 7, "01 65");
        Check.show(x, "judge x>y;");
        Check.show(x, "ask pairs;judge x=5 and y=6;");
        Check.show(x, "ask lands;judge x=y and x=3;");
        Check.show(x, "");
        Check.due("BORDERS", x.believed(0, 0, -1, 0, 0), 2);
        Check.due("pairs", x.believed(1, 0, -1, 0, 0), 21);
        Check.due("lands", x.believed(2, 0, -1, 0, 0), 7);
        Check.due("BORDER 0 as told", x.believed(0, 0, 0, 1, 2), 0);
        Check.due("BORDER 1 as told", x.believed(0, 0, 1, 1, 2), 1);
        for (int k = 0; k < 21; k++) {
            Check.due("pair " + k, x.believed(1, 0, k, 0, 0), k == 20 ? 1 : 0);
        }
        for (int k = 0; k < 7; k++) {
            Check.due("land " + k, x.believed(2, 0, k, 0, 0), k == 3 ? 1 : 0);
        }
        Check.due("without judge", x.believed(3, 0, 0, 1, 1), 1);
        Check.due("no such ASKING", x.believed(0, 0, 2, 1, 1), -1);
        Check.due("ASKING -2", x.believed(0, 0, -2, 1, 1), -1);
        Check.due("PAINT 3", x.believed(0, 0, 0, 3, 1), -1);
        Check.due("PAINT -1", x.believed(0, 0, 0, 1, -1), -1);
        Check.due("no such SHOWING", x.believed(4, 0, 0, 1, 1), -1);
        Check.due("no such MAP", x.believed(0, 1, 0, 1, 1), -1);
        Check.due("SHOWING -1", x.believed(-1, 0, -1, 1, 1), -1);
    }

    private static void right() {
        ShownNot x = new ShownNot();
        Check.map(x, 2, "01");
        Check.map(x, 4, "01 02 03 12 13 23");
        Check.show(x, "swap 6;judge a#b;");
        Check.show(x, "swap 3;judge not a=1;");
        Check.show(x, "swap 2;judge a#2 or b#1;");
        Check.show(x, "ask lands;swap 6;judge a#2;");
        for (int what = 0; what < 4; what++) {
            Check.due("always right, " + what, x.right(0, 0, what), what == 0 ? 0 : -1);
            Check.due("without ANSWERS, " + what, x.right(1, 1, what), what == 0 ? 0 : -1);
        }
        // Each ANSWER's first paint becomes 1 by one of three SWAPS; of paint 0 by SWAP 2.
        int[] first = {6, 0, 0, 2};
        // ANSWERS 01 02 10 12 20 21; 2 1 is made of 2 1 by SWAP 0 and of 2 0 by SWAP 1.
        int[] second = {2, 4, 0, 1};
        // Of two LANDS each becomes 2 by two of six SWAPS; of paint 0 first by SWAP 3.
        int[] third = {24, 0, 0, 3};
        for (int what = 0; what < 4; what++) {
            Check.due("swap 3, " + what, x.right(1, 0, what), first[what]);
            Check.due("swap 2, " + what, x.right(2, 0, what), second[what]);
            Check.due("lands, " + what, x.right(3, 0, what), third[what]);
        }
        Check.due("what 4", x.right(0, 0, 4), -1);
        Check.due("what -1", x.right(0, 0, -1), -1);
        Check.due("no such SHOWING", x.right(4, 0, 0), -1);
        Check.due("no such MAP", x.right(0, 2, 0), -1);
    }

    private static void cheat() {
        ShownNot x = new ShownNot();
        Check.map(x, 4, "01 02 03 12 13 23");
        Check.map(x, 3, "");
        Check.show(x, "judge a#b;");
        Check.show(x, "ask lands;judge a=x;");
        Check.show(x, "judge 1=2;");
        int[] ofFour = {5, 6, 5};
        int[] lands = {3, 4, 15};
        int[] never = {0, 6, 0};
        for (int what = 0; what < 3; what++) {
            Check.due("of four, " + what, x.cheat(0, 0, what), ofFour[what]);
            Check.due("lands, " + what, x.cheat(1, 0, what), lands[what]);
            Check.due("never, " + what, x.cheat(2, 0, what), never[what]);
            Check.due("without ASKINGS, " + what, x.cheat(0, 1, what), -1);
        }
        Check.due("what 3", x.cheat(0, 0, 3), -1);
        Check.due("what -1", x.cheat(0, 0, -1), -1);
        Check.due("no such SHOWING", x.cheat(3, 0, 0), -1);
        Check.due("no such MAP", x.cheat(0, 2, 0), -1);
    }

    private static void nights() {
        ShownNot x = new ShownNot();
        Check.map(x, 4, "01 02 03 12 13 23");
        Check.map(x, 3, "");
        Check.map(x, 7, "");
        Check.map(x, 2, "01");
        Check.show(x, "judge a#b;");
        Check.show(x, "judge 1=2;");
        // One of 21 pairs is never BELIEVED.
        Check.show(x, "ask pairs;judge x#0 or y#1;");
        // One of two LANDS is.
        Check.show(x, "ask lands;judge x=0;");
        Check.due("five of six, 1 in 2", x.nights(0, 0, 2), 4);
        Check.due("five of six, 1 in 6", x.nights(0, 0, 6), 10);
        Check.due("never, 1 in 2", x.nights(1, 0, 2), 1);
        Check.due("never, 1 in most", x.nights(1, 0, 1000000000), 1);
        Check.due("20 of 21, 1 in most", x.nights(2, 2, 1000000000), 425);
        Check.due("20 of 21, 1 in 2", x.nights(2, 2, 2), 15);
        Check.due("one of two, 1 in 2", x.nights(3, 3, 2), 1);
        Check.due("one of two, 1 in 3", x.nights(3, 3, 3), 2);
        Check.due("one of two, 1 in 512", x.nights(3, 3, 512), 9);
        Check.due("one of two, 1 in 513", x.nights(3, 3, 513), 10);
        Check.due("one of two, 1 in 536870912", x.nights(3, 3, 536870912), 29);
        Check.due("always BELIEVED", x.nights(0, 3, 2), -1);
        Check.due("no ASKINGS", x.nights(0, 1, 2), -1);
        Check.due("1 in 1", x.nights(0, 0, 1), -1);
        Check.due("1 in 1000000001", x.nights(0, 0, 1000000001), -1);
        Check.due("no such SHOWING", x.nights(4, 0, 2), -1);
        Check.due("no such MAP", x.nights(0, 4, 2), -1);
    }

    private static void tells(ShownNot x, int showing, int map, int n, int... want) {
        for (int what = 0; what < 4; what++) {
            Check.due("tells(" + showing + ", " + map + ", " + n + ", " + what + ")",
                    x.tells(showing, map, n, what), want[what]);
        }
    }

    private static void tells() {
        ShownNot x = new ShownNot();
        int triangle = Check.map(x, 3, "01 12 02");
        int way = Check.map(x, 3, "01 12");
        int four = Check.map(x, 4, "01 02 03 12 13 23");
        int tail = Check.map(x, 5, "01 12 02 34");
        Check.show(x, "swap 6;");
        Check.show(x, "swap 6;once;");
        Check.show(x, "swap 3;");
        Check.show(x, "swap 6;ask pairs;");
        Check.show(x, "swap 3;ask lands;");
        Check.show(x, "swap 3;ask lands;once;");
        tells(x, 0, triangle, 1, 0, -1, -1, -1);
        tells(x, 0, way, 2, 0, -1, -1, -1);
        tells(x, 1, triangle, 2, 0, -1, -1, -1);
        tells(x, 1, way, 1, 0, -1, -1, -1);
        // 010 is told from 012 by BORDERS 0 and 1 of one drawing.
        tells(x, 1, way, 2, 1, 0, 1, 1);
        tells(x, 1, tail, 2, 1, 0, 3, 1);
        // 01 goes round to 12 and 20, not to 02.
        tells(x, 2, triangle, 1, 1, 0, -1, 1);
        tells(x, 2, triangle, 2, 1, 0, 0, 1);
        // 010 and 012: the second ASKING is the pair 0, 2.
        tells(x, 3, way, 1, 1, 1, -1, 1);
        tells(x, 3, way, 2, 1, 0, 1, 1);
        tells(x, 4, way, 2, 0, -1, -1, -1);
        // LANDS 0 and 1 of 010 and 020, the third ANSWER, are told by a turning.
        tells(x, 5, way, 2, 1, 0, 1, 2);
        tells(x, 5, way, 1, 0, -1, -1, -1);
        tells(x, 2, four, 2, 0, -1, -1, -1);
        Check.due("n 0", x.tells(0, 0, 0, 0), -1);
        Check.due("n 3", x.tells(0, 0, 3, 0), -1);
        Check.due("what 4", x.tells(0, 0, 1, 4), -1);
        Check.due("what -1", x.tells(0, 0, 1, -1), -1);
        Check.due("no such SHOWING", x.tells(6, 0, 1, 0), -1);
        Check.due("no such MAP", x.tells(0, 4, 1, 0), -1);
    }

    public static void main(String[] args) {
        judging();
        bounds();
        believed();
        right();
        cheat();
        nights();
        tells();
        Check.finish();
    }
}
