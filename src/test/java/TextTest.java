/** Promises 8 to 11: the tape, SHOWINGS read from it, and their FAULTS. */
public final class TextTest {
    private static void faultOf(String text, int kind, int place) {
        ShownNot x = new ShownNot();
        Check.due("a FAULT in: " + text, Check.show(x, text), -1);
        Check.due("FAULT of: " + text, x.fault(0), kind);
        Check.due("place in: " + text, x.fault(1), place);
        Check.due("the tape is empty after: " + text, x.about(4), 0);
        Check.due("no SHOWING by: " + text, x.about(1), 0);
    }

    private static void soundIs(String text, int swap, int once, int asks) {
        ShownNot x = new ShownNot();
        Check.due("SHOWING: " + text, Check.show(x, text), 0);
        Check.due("no FAULT: " + text, x.fault(0), 0);
        Check.due("no place: " + text, x.fault(1), -1);
        Check.due("swap of: " + text, x.about(30), swap);
        Check.due("once of: " + text, x.about(40), once);
        Check.due("ask of: " + text, x.about(50), asks);
        Check.due("the tape is empty after: " + text, x.about(4), 0);
    }

    private static void tape() {
        ShownNot x = new ShownNot();
        for (int i = 1; i <= 15; i++) {
            Check.due("feed " + i, x.feed(0x20202020, 0x20202020, 0x20202020, 0x20202020, 0x20202020), 20 * i);
        }
        Check.due("more than 300", x.feed(0, 0, 0, 0, 0), -1);
        Check.due("none came", x.about(4), 300);
        Check.due("end(301)", x.end(301), -1);
        Check.due("end(-1)", x.end(-1), -1);
        Check.due("end of int", x.end(Integer.MIN_VALUE), -1);
        Check.due("nothing done", x.about(4), 300);
        Check.due("end(300)", x.end(300), 300);
        Check.due("end(281)", x.end(281), 281);
        Check.due("one byte too many", x.feed(0, 0, 0, 0, 0), -1);
        Check.due("end(280)", x.end(280), 280);
        Check.due("up to 300", x.feed(0x20202020, 0x20202020, 0x20202020, 0x20202020, 0x20202020), 300);
        Check.due("300 blanks", x.showing(), 0);
        Check.due("empty then", x.about(4), 0);
        // "once" by its bytes, the highest of a first, and a last byte of e.
        x.feed(0x6f6e6365, 0x20202020, 0x20202020, 0x20202020, 0x2020203b);
        Check.due("the order of bytes", x.showing(), 1);
        Check.due("once it is", x.about(41), 1);
    }

    private static void eightShowings() {
        ShownNot x = new ShownNot();
        for (int i = 0; i < 8; i++) {
            Check.due("SHOWING " + i, Check.show(x, i % 2 == 0 ? "once;" : ""), i);
        }
        Check.due("a ninth", Check.show(x, "ask all;"), -1);
        Check.due("the tape stays", x.about(4), 8);
        Check.due("eight stand", x.about(1), 8);
        Check.due("the text was not read", x.fault(0), 0);
        Check.due("the seventh", x.about(46), 1);
        x.back();
        Check.due("the tape is still there", x.about(4), 8);
        Check.due("read now", x.showing(), -1);
        Check.due("its FAULT", x.fault(0), 1);
        Check.due("its place", x.fault(1), 4);
    }

    private static void faultOfOthers() {
        ShownNot x = new ShownNot();
        Check.due("ahead of any, 0", x.fault(0), -1);
        Check.due("ahead of any, 1", x.fault(1), -1);
        Check.show(x, "swap 4;");
        Check.due("what 2", x.fault(2), -1);
        Check.due("what -1", x.fault(-1), -1);
        Check.due("FAULT", x.fault(0), 2);
        Check.show(x, "");
        Check.due("the latest has none", x.fault(0), 0);
        Check.due("nor a place", x.fault(1), -1);
    }

    private static void sounds() {
        soundIs("", 1, 0, 0);
        soundIs(" \n ", 1, 0, 0);
        soundIs("swap 1;", 1, 0, 0);
        soundIs("swap 2;", 2, 0, 0);
        soundIs("swap 3;ask pairs;", 3, 0, 1);
        soundIs("swap6;once;ask lands;judge a#b;", 6, 1, 2);
        soundIs("judge a=b;ask borders;\nonce\n;\nswap 0006;", 6, 1, 0);
        soundIs("judge ((((((((a))))))))#b;", 1, 0, 0);
        soundIs("judge --------a#b;", 1, 0, 0);
        soundIs("judge not not not not not not not not a#b;", 1, 0, 0);
        soundIs("judge not not not not a#----b;", 1, 0, 0);
        soundIs("judge -a#-b and-a#(b)or--------x=((((((((y))))))));", 1, 0, 0);
        soundIs("judge 9999<=a;", 1, 0, 0);
        soundIs("judge 00000000000000000000009999>=a*-b;", 1, 0, 0);
        soundIs("judge 1*a#b;", 1, 0, 0);
    }

    private static void cantStand() {
        faultOf(";", 1, 0);
        faultOf("a", 1, 0);
        faultOf("7", 1, 0);
        faultOf("Swap 6;", 1, 0);
        faultOf("swaps 6;", 1, 0);
        faultOf("swap", 1, 4);
        faultOf("swap  \n", 1, 7);
        faultOf("swap ;", 1, 5);
        faultOf("swap 6", 1, 6);
        faultOf("swap 6 6;", 1, 7);
        faultOf("swap -1;", 1, 5);
        faultOf("once 1;", 1, 5);
        faultOf("once", 1, 4);
        faultOf("ask;", 1, 3);
        faultOf("ask 99999;", 1, 4);
        faultOf("ask border;", 1, 4);
        faultOf("ask judge;", 1, 4);
        faultOf("judge;", 1, 5);
        faultOf("judge", 1, 5);
        faultOf("judge a;", 1, 7);
        faultOf("judge a=;", 1, 8);
        faultOf("judge a=b", 1, 9);
        faultOf("judge a=b=x;", 1, 9);
        faultOf("judge a< =b;", 1, 9);
        faultOf("judge a=>b;", 1, 8);
        faultOf("judge aa=b;", 1, 6);
        faultOf("judge A=b;", 1, 6);
        faultOf("judge c=b;", 1, 6);
        faultOf("judge az=b;", 1, 6);
        faultOf("judge aZ=b;", 1, 6);
        faultOf("judge aA=b;", 1, 6);
        faultOf("judge a{=b;", 1, 7);
        faultOf("judge a[=b;", 1, 7);
        faultOf("judge a@=b;", 1, 7);
        faultOf("judge 1:=b;", 1, 7);
        faultOf("judge a<=", 1, 9);
        faultOf("judge a>=", 1, 9);
        faultOf("judge a>", 1, 8);
        faultOf("judge or=b;", 1, 6);
        faultOf("judge a not=b;", 1, 8);
        faultOf("judge (a=b);", 1, 8);
        faultOf("judge (not a=b);", 1, 7);
        faultOf("judge a+not b=x;", 1, 8);
        faultOf("judge a)=b;", 1, 7);
        faultOf("judge (a;", 1, 8);
        faultOf("judge ()=b;", 1, 7);
        faultOf("judge a+*b=x;", 1, 8);
        faultOf("judge +a=b;", 1, 6);
        faultOf("judge a b=x;", 1, 8);
        faultOf("judge a=b and;", 1, 13);
        faultOf("judge a=b or or;", 1, 13);
        faultOf("judge a=b not;", 1, 10);
        faultOf("judge a=b,", 1, 9);
        faultOf("once;?", 1, 5);
        faultOf("once\t;", 1, 4);
        faultOf("\u00e9", 1, 0);
        faultOf("\0", 1, 0);
        faultOf("judge a 99999=b;", 1, 8);
    }

    private static void otherFaults() {
        for (String number : new String[] {"0", "4", "5", "7", "16", "9999", "10000", "4294967297"}) {
            faultOf("swap " + number + ";", 2, 5);
        }
        faultOf("judge 10000=a;", 2, 6);
        faultOf("judge a=b+99999999999999999999;", 2, 10);
        faultOf("judge (((((((((a", 3, 14);
        faultOf("judge ---------a=b;", 3, 14);
        faultOf("judge a=---------b;", 3, 16);
        faultOf("judge not not not not not not not not not a=b;", 3, 38);
        faultOf("judge not not not not not not not not -a=b;", 3, 38);
        faultOf("judge not not not not not not not not a=(b);", 3, 40);
        faultOf("judge not-(-(-(-a=b;", 1, 17);
        faultOf("judge not-(-(-(-(a", 3, 16);
        faultOf("swap 6;swap 6;", 4, 7);
        faultOf("once; once", 4, 6);
        faultOf("ask lands;judge a=b;ask", 4, 20);
        faultOf("judge a=b;judge", 4, 10);
        faultOf("swap 6;swap 9;", 4, 7);
        faultOf("swap 9;swap 9;", 2, 5);
    }

    public static void main(String[] args) {
        tape();
        eightShowings();
        faultOfOthers();
        sounds();
        cantStand();
        otherFaults();
        Check.finish();
    }
}
