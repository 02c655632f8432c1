/** Promises 17 to 22: NIGHTS SEEN, WEIGHT, POSSIBLE, and what is PULLED from boxes. */
public final class SeenTest {
    private static void see() {
        ShownNot x = new ShownNot();
        Check.due("the first night", x.see(0, 0, 0), true);
        Check.due("the last night and LAND", x.see(19, 6, 2), true);
        Check.due("two nights", x.about(5), 2);
        Check.due("night 20", x.see(20, 0, 0), false);
        Check.due("night -1", x.see(-1, 0, 0), false);
        Check.due("LAND 7", x.see(0, 7, 0), false);
        Check.due("LAND -1", x.see(0, -1, 0), false);
        Check.due("PAINT 3", x.see(0, 0, 3), false);
        Check.due("PAINT -2", x.see(0, 0, -2), false);
        Check.due("one LAND more of a night", x.see(0, 1, 1), true);
        Check.due("still two nights", x.about(5), 2);
        Check.due("one less", x.see(0, 0, -1), true);
        Check.due("the night has one yet", x.about(5), 2);
        Check.due("none left", x.see(0, 1, -1), true);
        Check.due("one night", x.about(5), 1);
        Check.due("what isn't SEEN can be taken away", x.see(5, 5, -1), true);
        Check.due("one night yet", x.about(5), 1);
    }

    /** ANSWERS of the way 0 1 2: 0 010, 1 012, 2 020, 3 021, 4 101, 5 102, and so on. */
    private static ShownNot way() {
        ShownNot x = new ShownNot();
        Check.map(x, 3, "01 12");
        Check.show(x, "swap 6;");
        Check.show(x, "swap 6;once;");
        Check.show(x, "");
        return x;
    }

    private static void weight() {
        ShownNot x = way();
        Check.due("nothing SEEN, anew", x.weight(0, 0, 0), 1);
        Check.due("nothing SEEN, once", x.weight(1, 0, 0), 6);
        Check.due("nothing SEEN, swap 1", x.weight(2, 0, 0), 1);
        x.see(7, 3, 1);
        x.see(8, 6, 1);
        Check.due("LANDS of no MAP here, anew", x.weight(0, 0, 0), 1);
        Check.due("LANDS of no MAP here, once", x.weight(1, 0, 0), 6);
        x.see(0, 0, 2);
        x.see(3, 1, 2);
        Check.due("two nights anew", x.weight(0, 0, 0), 4);
        Check.due("two nights once", x.weight(1, 0, 0), 0);
        Check.due("two nights, swap 1", x.weight(2, 0, 0), 0);
        x.see(3, 1, 0);
        Check.due("another PAINT, once", x.weight(1, 0, 0), 1);
        x.see(3, 3, 2);
        x.see(0, 4, 1);
        Check.due("LANDS behind the MAP's in the same nights", x.weight(1, 0, 0), 1);
        Check.due("they are nothing anew", x.weight(0, 0, 0), 4);
        x.see(3, 1, 2);
        x.see(0, 0, 0);
        Check.due("0 then 2 by SWAP 0, ANSWER 020", x.weight(2, 0, 2), 1);
        Check.due("0 then 2 by SWAP 0, ANSWER 010", x.weight(2, 0, 0), 0);
        for (int night = 0; night < 20; night++) {
            x.see(night, 0, 1);
            x.see(night, 1, -1);
            x.see(night, 3, -1);
        }
        Check.due("twenty nights", x.weight(0, 0, 0), 1 << 20);
        Check.due("twenty nights once", x.weight(1, 0, 0), 2);
        Check.due("ANSWER 12", x.weight(0, 0, 12), -1);
        Check.due("ANSWER -1", x.weight(0, 0, -1), -1);
        Check.due("no such SHOWING", x.weight(3, 0, 0), -1);
        Check.due("no such MAP", x.weight(0, 1, 0), -1);
    }

    private static void possible(ShownNot x, int showing, int count, int known, int first) {
        Check.due("how many by " + showing, x.possible(showing, 0, 0), count);
        Check.due("KNOWN by " + showing, x.possible(showing, 0, 1), known);
        Check.due("lowest by " + showing, x.possible(showing, 0, 2), first);
    }

    private static void possible() {
        ShownNot x = way();
        possible(x, 0, 12, 0, 0);
        x.see(0, 0, 1);
        x.see(0, 2, 2);
        // LANDS 0 and 2 are unlike: 012, 021 and their like.
        possible(x, 0, 6, 1, 1);
        possible(x, 1, 6, 1, 1);
        // As it lies: 102 alone, ANSWER 5.
        possible(x, 2, 1, 1, 5);
        x.see(1, 0, 1);
        x.see(1, 2, 1);
        possible(x, 0, 0, 0, -1);
        Check.due("what 3", x.possible(0, 0, 3), -1);
        Check.due("what -1", x.possible(0, 0, -1), -1);
        Check.due("no such SHOWING", x.possible(3, 0, 0), -1);
        Check.due("no such MAP", x.possible(0, 1, 0), -1);
        ShownNot bare = new ShownNot();
        Check.map(bare, 4, "01 02 03 12 13 23");
        Check.show(bare, "swap 6;");
        possible(bare, 0, 0, 0, -1);
        ShownNot triangle = new ShownNot();
        Check.map(triangle, 3, "01 02 12");
        Check.show(triangle, "");
        possible(triangle, 0, 6, 1, 0);
    }

    private static void boxes() {
        ShownNot x = new ShownNot();
        Check.map(x, 4, "01 12");
        Check.map(x, 3, "");
        Check.due("without boxes", x.ask(0), -1);
        Check.due("nothing PULLED", x.pulled(0), -1);
        Check.due("no ANSWER without boxes", x.pulled(-1), 0);
        Check.due("a ROW too high", x.shut(0, 81, 0), false);
        Check.due("a ROW below 0", x.shut(0, -1, 0), false);
        Check.due("SWAP 6", x.shut(0, 0, 6), false);
        Check.due("SWAP -1", x.shut(0, 0, -1), false);
        Check.due("no such MAP", x.shut(2, 0, 0), false);
        Check.due("still without boxes", x.ask(0), -1);
        // 0 1 0 2 by SWAP 5 is 2 1 2 0.
        Check.due("shut", x.shut(0, 11, 5), true);
        Check.due("BORDER 1", x.ask(1), 2);
        Check.due("LAND 1", x.pulled(1), 1);
        Check.due("LAND 2", x.pulled(2), 2);
        Check.due("LAND 0 not yet", x.pulled(0), -1);
        Check.due("BORDER 1 again", x.ask(1), 2);
        Check.due("BORDER 0", x.ask(0), 3);
        Check.due("not all LANDS", x.pulled(-1), 0);
        Check.due("no BORDER 2 yet", x.ask(2), -1);
        x.border(0, 3, 0);
        Check.due("BORDER 2", x.ask(2), 4);
        Check.due("LAND 3", x.pulled(3), 0);
        Check.due("LAND 0", x.pulled(0), 2);
        Check.due("it is an ANSWER", x.pulled(-1), 1);
        x.border(0, 0, 2);
        Check.due("by one BORDER more it isn't", x.pulled(-1), 0);
        Check.due("BORDER -1", x.ask(-1), -1);
        Check.due("LAND 4", x.pulled(4), -1);
        Check.due("LAND -2", x.pulled(-2), -1);
        Check.due("not shut", x.shut(0, 81, 0), false);
        Check.due("what was PULLED stays then", x.pulled(3), 0);
        Check.due("shut again", x.shut(0, 11, 0), true);
        Check.due("what was PULLED is gone", x.pulled(3), -1);
        Check.due("shut for a MAP without BORDERS", x.shut(1, 5, 0), true);
        Check.due("it has no BORDER 0", x.ask(0), -1);
    }

    private static void noAnswerPulled() {
        ShownNot x = new ShownNot();
        Check.map(x, 3, "01 12");
        x.shut(0, 1, 1);
        x.ask(0);
        x.ask(1);
        Check.due("all seen and no ANSWER", x.pulled(-1), 0);
        Check.due("LAND 0 swapped", x.pulled(0), 1);
        Check.due("LAND 2 swapped", x.pulled(2), 0);
    }

    public static void main(String[] args) {
        see();
        weight();
        possible();
        boxes();
        noAnswerPulled();
        Check.finish();
    }
}
