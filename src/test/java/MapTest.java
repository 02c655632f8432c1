/** Promises 1 to 7: a new object, MAPS, BORDERS, ANSWERS, SWAPS, RINGS and TURNS. */
public final class MapTest {
    private static void aNewObject() {
        ShownNot x = new ShownNot();
        Check.due("MAPS of a new object", x.about(0), 0);
        Check.due("SHOWINGS of a new object", x.about(1), 0);
        Check.due("rows of a new object", x.about(2), 0);
        Check.due("letters of a new object", x.about(3), 1);
        Check.due("bytes of a new object", x.about(4), 0);
        Check.due("nights of a new object", x.about(5), 0);
        for (int paint = 0; paint < 3; paint++) {
            Check.due("a new lock shows", x.shows(paint, 0), paint);
            Check.due("a new lock has one draw", x.shows(paint, 1), -1);
        }
        Check.due("no boxes", x.ask(0), -1);
        Check.due("no fault yet", x.fault(0), -1);
        Check.due("no place yet", x.fault(1), -1);
        x.map(3);
        x.lock(2, 1, 1, 9, 2);
        x.letters(3);
        x.row(1, 2, 3);
        x.see(4, 4, 1);
        Check.show(x, "once;");
        Check.due("the image is the new object", x.back(), 0);
        Check.due("no MAPS again", x.about(0), 0);
        Check.due("no SHOWINGS again", x.about(1), 0);
        Check.due("no rows again", x.about(2), 0);
        Check.due("one letter again", x.about(3), 1);
        Check.due("no nights again", x.about(5), 0);
        Check.due("the lock again", x.shows(2, 0), 2);
        Check.due("its one draw again", x.shows(2, 1), -1);
    }

    private static void maps() {
        ShownNot x = new ShownNot();
        for (int lands : new int[] {1, 0, -1, 8, Integer.MIN_VALUE, Integer.MAX_VALUE}) {
            Check.due("map(" + lands + ")", x.map(lands), -1);
        }
        Check.due("the fewest LANDS", x.map(2), 0);
        Check.due("the most LANDS", x.map(7), 1);
        Check.due("a third MAP", x.map(5), 2);
        Check.due("a fourth MAP", x.map(4), 3);
        Check.due("a fifth MAP", x.map(4), -1);
        Check.due("a fifth MAP is none", x.about(0), 4);
        Check.due("LANDS of the second", x.about(11), 7);
    }

    private static void borders() {
        ShownNot x = new ShownNot();
        x.map(7);
        Check.due("no such MAP", x.border(1, 0, 1), -1);
        Check.due("a MAP below 0", x.border(-1, 0, 1), -1);
        Check.due("LAND 7 of 7", x.border(0, 0, 7), -1);
        Check.due("LAND -1", x.border(0, -1, 0), -1);
        Check.due("one LAND twice", x.border(0, 3, 3), -1);
        int number = 0;
        for (int one = 0; one < 7 && number < 15; one++) {
            for (int other = one + 1; other < 7 && number < 15; other++) {
                Check.due("BORDER " + number, x.border(0, other, one), number);
                Check.due("the same again", x.border(0, other, one), -1);
                Check.due("the same the other way", x.border(0, one, other), -1);
                number++;
            }
        }
        Check.due("fifteen BORDERS", x.about(20), 15);
        Check.due("a sixteenth", x.border(0, 5, 6), -1);
        Check.due("still fifteen", x.about(20), 15);
    }

    private static void answers() {
        ShownNot x = new ShownNot();
        int bare = Check.map(x, 7, "");
        Check.due("all ROWS are ANSWERS", x.answer(bare, -1), 2187);
        Check.due("the last ROW", x.answer(bare, 2186), 2186);
        Check.due("behind the last", x.answer(bare, 2187), -1);
        int two = Check.map(x, 2, "10");
        Check.due("ANSWERS of one BORDER", x.answer(two, -1), 6);
        int[] rows = {1, 2, 3, 5, 6, 7};
        for (int i = 0; i < 6; i++) {
            Check.due("ANSWER " + i, x.answer(two, i), rows[i]);
        }
        int four = Check.map(x, 4, "01 02 03 12 13 23");
        Check.due("four neighbours all", x.answer(four, -1), 0);
        Check.due("none such", x.answer(four, 0), -1);
        Check.due("below NONE", x.answer(two, -2), -1);
        Check.due("no such MAP", x.answer(3, -1), -1);
        x.border(bare, 0, 6);
        Check.due("a BORDER more", x.answer(bare, -1), 1458);
        Check.due("the first then", x.answer(bare, 0), 1);
    }

    private static void swaps() {
        ShownNot x = new ShownNot();
        x.map(3);
        // 0 1 2 in a row is ROW 5: each SWAP shows what 0, 1, 2 become.
        int[] made = {5, 11, 15, 19, 7, 21};
        for (int swap = 0; swap < 6; swap++) {
            Check.due("0 1 2 by SWAP " + swap, x.swapped(0, 5, swap), made[swap]);
        }
        Check.due("the lowest ROW", x.swapped(0, 0, 1), 13);
        Check.due("the highest ROW", x.swapped(0, 26, 5), 0);
        Check.due("a ROW too high", x.swapped(0, 27, 0), -1);
        Check.due("a ROW below 0", x.swapped(0, -1, 0), -1);
        Check.due("SWAP 6", x.swapped(0, 0, 6), -1);
        Check.due("SWAP -1", x.swapped(0, 0, -1), -1);
        Check.due("no such MAP", x.swapped(1, 0, 0), -1);
    }

    private static void rings() {
        ShownNot x = new ShownNot();
        Check.map(x, 2, "01");
        Check.due("of two LANDS none", x.rings(0), 0);
        Check.map(x, 5, "01 02 03 04 12 13 14 23 24 34");
        Check.due("five neighbours all", x.rings(1), 12);
        Check.map(x, 6, "03 04 05 13 14 15 23 24 25");
        Check.due("three and three", x.rings(2), 6);
        Check.map(x, 7, "01 12 23 34 45 56 60");
        Check.due("one ring of seven", x.rings(3), 1);
        Check.due("no such MAP", x.rings(4), -1);
        Check.due("a MAP below 0", x.rings(-1), -1);
    }

    private static void turns() {
        ShownNot x = new ShownNot();
        Check.map(x, 7, "01 12 23 34 45 56 60");
        Check.map(x, 7, "02 24 46 61 13 35 50");
        Check.map(x, 7, "");
        Check.map(x, 4, "01 12 23");
        Check.due("a ring to itself", x.turnings(0, 0, 0), 14);
        Check.due("a ring to another", x.turnings(0, 1, 0), 14);
        Check.due("rings of seven LANDS", x.turnings(0, 0, 1), 360);
        Check.due("it is of the first", x.turnings(0, 2, 1), 360);
        Check.due("to a MAP without BORDERS", x.turnings(0, 2, 0), 0);
        Check.due("without BORDERS", x.turnings(2, 2, 0), 5040);
        Check.due("without BORDERS but one MAP", x.turnings(2, 2, 1), 1);
        Check.due("unlike numbers of LANDS", x.turnings(3, 0, 0), 0);
        Check.due("unlike numbers of LANDS, 1", x.turnings(3, 0, 1), 12);
        Check.due("a way to itself", x.turnings(3, 3, 0), 2);
        Check.due("what 2", x.turnings(0, 0, 2), -1);
        Check.due("what -1", x.turnings(0, 0, -1), -1);
        Check.due("no first MAP", x.turnings(4, 0, 0), -1);
        Check.due("no second MAP", x.turnings(0, 4, 0), -1);
    }

    public static void main(String[] args) {
        aNewObject();
        maps();
        borders();
        answers();
        swaps();
        rings();
        turns();
        Check.finish();
    }
}
