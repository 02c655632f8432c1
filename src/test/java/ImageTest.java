/** Promises 32 to 34: AN IMAGE, BACK, and about. */
public final class ImageTest {
    private static ShownNot full() {
        ShownNot x = new ShownNot();
        Check.map(x, 3, "01 12");
        Check.map(x, 7, "60");
        Check.show(x, "swap 6;once;ask pairs;judge a#b;");
        Check.show(x, "swap 3;ask lands;");
        x.see(2, 1, 2);
        x.shut(0, 5, 0);
        x.ask(0);
        x.lock(7, 5, 3, 60, 9);
        x.letters(2);
        x.row(1, -2, 2);
        return x;
    }

    private static void looksFull(String when, ShownNot x) {
        int[][] want = {{0, 2}, {1, 2}, {2, 1}, {3, 2}, {5, 1}, {10, 3}, {11, 7}, {12, -1}, {20, 2}, {21, 1},
            {30, 6}, {31, 3}, {32, -1}, {40, 1}, {41, 0}, {50, 1}, {51, 2}};
        for (int[] w : want) {
            Check.due(when + ": about(" + w[0] + ")", x.about(w[0]), w[1]);
        }
        Check.due(when + ": ANSWERS", x.answer(0, -1), 12);
        Check.due(when + ": BORDERS are as they were", x.border(0, 1, 0), -1);
        Check.due(when + ": judge", x.believed(0, 0, 0, 1, 1), 0);
        Check.due(when + ": judge of the second", x.believed(1, 0, 0, 1, 1), 1);
        Check.due(when + ": SEEN", x.weight(0, 0, 0), 2);
        Check.due(when + ": PULLED", x.pulled(1), 1);
        Check.due(when + ": not PULLED", x.pulled(2), -1);
        Check.due(when + ": lock", x.shows(2, 8), (14 + 40 + 48) % 60);
        Check.due(when + ": DRAWS", x.shows(2, 9), -1);
        Check.due(when + ": riddle", x.riddle(0), 4);
    }

    private static void changeAll(ShownNot x) {
        x.border(0, 0, 2);
        x.answer(0, -1);
        x.map(4);
        Check.show(x, "judge 1=2;");
        x.see(2, 1, 0);
        x.see(5, 0, 0);
        x.ask(1);
        x.shut(1, 0, 0);
        x.lock(1, 1, 1, 2, 32);
        x.letters(3);
        x.row(3, 3, 3);
    }

    private static void imageAndBack() {
        ShownNot x = full();
        looksFull("at first", x);
        Check.due("image()", x.image(), 2);
        looksFull("after image()", x);
        changeAll(x);
        Check.due("ANSWERS changed", x.answer(0, -1), 6);
        Check.due("three SHOWINGS", x.about(1), 3);
        Check.due("back()", x.back(), 2);
        looksFull("after back()", x);
        changeAll(x);
        Check.due("back() again", x.back(), 2);
        looksFull("after back() again", x);
        changeAll(x);
        Check.due("another image()", x.image(), 3);
        x.map(5);
        Check.due("back() to it", x.back(), 3);
        Check.due("MAPS of it", x.about(0), 3);
        Check.due("ANSWERS of it", x.answer(0, -1), 6);
        Check.due("the lock of it", x.shows(1, 31), (1 + 31 + 31) % 2);
        Check.due("letters of it", x.about(3), 3);
        Check.due("nights of it", x.about(5), 2);
    }

    private static void tapeAndFaultStay() {
        ShownNot x = new ShownNot();
        x.image();
        Check.show(x, "swap 4;");
        Check.tape(x, "once;");
        x.back();
        Check.due("the tape stays", x.about(4), 5);
        Check.due("the FAULT stays", x.fault(0), 2);
        Check.due("its place stays", x.fault(1), 5);
        x.image();
        Check.due("an image leaves the tape", x.about(4), 5);
        Check.due("it is a SHOWING", x.showing(), 0);
        x.back();
        Check.due("no FAULT stays", x.fault(0), 0);
        Check.due("the tape stays empty", x.about(4), 0);
        Check.due("the number is free again", Check.show(x, "swap 2;"), 0);
        Check.due("it is the new one", x.about(30), 2);
        Check.due("nothing of the old one", x.about(40), 0);
    }

    private static void numbersUsedAgain() {
        ShownNot x = new ShownNot();
        Check.map(x, 5, "01 12 23 34");
        Check.due("ANSWERS of the first", x.answer(0, -1), 48);
        x.back();
        Check.due("none left", x.answer(0, -1), -1);
        x.map(2);
        Check.due("no BORDERS of the old one", x.about(20), 0);
        Check.due("ANSWERS of the new one", x.answer(0, -1), 9);
        Check.due("its BORDER", x.border(0, 0, 1), 0);
        Check.due("ANSWERS with it", x.answer(0, -1), 6);
    }

    private static void aboutOthers() {
        ShownNot x = full();
        for (int what : new int[] {-1, -10, -20, -30, 6, 7, 8, 9, 12, 13, 14, 19, 22, 24, 29, 32, 38, 39, 42, 49, 52, 59, 60, 61,
            100, Integer.MIN_VALUE, Integer.MAX_VALUE}) {
            Check.due("about(" + what + ")", x.about(what), -1);
        }
        Check.tape(x, "abc");
        Check.due("bytes of the tape", x.about(4), 3);
        for (int i = 2; i < 8; i++) {
            Check.show(x, "swap 2;");
            Check.due("swap of SHOWING " + i, x.about(30 + i), 2);
        }
        Check.due("there is no SHOWING 8", x.about(38), -1);
    }

    public static void main(String[] args) {
        imageAndBack();
        tapeAndFaultStay();
        numbersUsedAgain();
        aboutOthers();
        Check.finish();
    }
}
