/** Part 1 of the document, sentence by sentence: each bound of THE TEXT, one below it and one above it. */
public final class TextBoundsTest {
    private static final int NONE = CubeDays.NONE, UNKNOWN = CubeDays.UNKNOWN, OUTSIDE = CubeDays.OUTSIDE;
    private static final int FULL = CubeDays.FULL;
    private static final String DAYS = "d0 0 0;";

    public static void main(String[] args) {
        lettersAtMost();
        daysWithinBounds();
        highNoLessThanLow();
        noughtsOrNot();
        daysFirstAndOnce();
        cubesAtMost();
        sidesOfACube();
        figuresWithinBounds();
        turnsAtMost();
        turnsUnlikeAndNotYet();
        pricesWithinBounds();
        pricesOnce();
        numbersOfOneToThreeFigures();
        wordsOfOneLetter();
        blanks();
        twoNumbersSideBySide();
        theEnd();
        theFirstLetterThatHasAFault();
        ofTheseTheLeast();
        anEmptyText();
        aFaultLeavesAllAsItWas();
        eachTextIsReadByItself();
        Check.finish("TextBoundsTest");
    }

    private static void due(String call, long got, long want) {
        Check.due(call, got, want);
    }

    /** The text has this fault at this letter. */
    private static void fault(String text, int number, int at) {
        CubeDays x = new CubeDays();
        Check.feed(x, text);
        due("desk() of '" + text + "'", x.desk(), -10 - number);
        due("fault() of '" + text + "'", x.fault(), at);
        due("it is empty then, with a fault too: '" + text + "'", x.told(4), 0);
        due("no days by '" + text + "'", x.told(10), 0);
        due("no cubes by '" + text + "'", x.told(3), 0);
    }

    /** The text has no fault and so many cubes. */
    private static CubeDays good(String text, int cubes) {
        CubeDays x = new CubeDays();
        Check.feed(x, text);
        due("desk() of '" + text + "'", x.desk(), cubes);
        due("fault() of '" + text + "'", x.fault(), NONE);
        due("it is empty then: '" + text + "'", x.told(4), 0);
        return x;
    }

    /** The clause stands behind a good 'd' clause; at counts from the clause's first letter. */
    private static void faultBehind(String clause, int number, int at) {
        fault(DAYS + clause, number, DAYS.length() + at);
    }

    private static CubeDays goodBehind(String clause, int cubes) {
        return good(DAYS + clause, cubes);
    }

    // "THE DESK is told in a text (220 letters at most)"
    private static void lettersAtMost() {
        StringBuilder text = new StringBuilder("d0 99 1;c0,1,2,3,4,5;c6,7,8,9,0,1;c2,3,4,5,6,7;c8,9,0,1,2,3;");
        text.append("t6 9;t2 5;t0 8;t3 4;");
        for (int figure = 0; figure < 10; figure++) {
            text.append('p').append(figure).append(' ').append(90 + figure).append(';');
        }
        for (int length = 218; length <= 220; length++) {
            StringBuilder padded = new StringBuilder(text);
            // blanks ahead, so that the last clause ends at the last letter
            while (padded.length() < length) {
                padded.insert(0, ' ');
            }
            CubeDays x = good(padded.toString(), 4);
            due("220 letters: H", x.told(1), 99);
            due("220 letters: the last side", x.side(3, 5), 3);
            due("220 letters: the last price", x.price(512), 99);
        }
        CubeDays x = new CubeDays();
        Check.feed(x, "d0 0 0;");
        for (int i = 8; i <= 219; i++) {
            due("220 letters at most", x.feed(' '), i);
        }
        due("the 220th", x.feed('c'), 220);
        due("the 221st", x.feed('1'), FULL);
        due("the end of a full text", x.desk(), -11);
        due("the end at the text's length", x.fault(), 220);
        due("then it is empty", x.feed('d'), 1);
    }

    // "DAYS L to H, each 0 .. 99"
    private static void daysWithinBounds() {
        CubeDays x = good("d0 99 0;", 0);
        due("L 0", x.told(0), 0);
        due("H 99", x.told(1), 99);
        due("there are days", x.told(10), 1);
        due("L 99", good("d99 99 0;", 0).told(0), 99);
        due("L 98", good("d98 99 0;", 0).told(0), 98);
        due("H 0", good("d0 0 0;", 0).told(1), 0);
        due("H 1", good("d1 1 0;", 0).told(1), 1);
        fault("d-1 99 0;", 1, 1);
        fault("d0 -1 0;", 1, 3);
        fault("d100 99 0;", 2, 1);
        fault("d100 100 0;", 2, 1);
        fault("d0 100 0;", 2, 3);
        fault("d0 999 0;", 2, 3);
    }

    // "H no less than L"; "4 H below L (at the H)"
    private static void highNoLessThanLow() {
        fault("d50 49 0;", 4, 4);
        fault("d50   49 0;", 4, 6);
        due("H like L", good("d50 50 0;", 0).told(1), 50);
        due("H above L", good("d50 51 0;", 0).told(1), 51);
        fault("d99 98 0;", 4, 4);
        fault("d99 0 0;", 4, 4);
        fault("d1 0 0;", 4, 3);
        fault("d10 9 0;", 4, 4);
    }

    // "Z 1: with noughts ahead, to as many places as H has; 0: without"
    private static void noughtsOrNot() {
        due("Z 0", good("d0 0 0;", 0).told(2), 0);
        due("Z 1", good("d0 0 1;", 0).told(2), 1);
        fault("d0 0 2;", 2, 5);
        fault("d0 0 -1;", 1, 5);
        fault("d0 0;", 1, 4);
        due("H has one place", good("d0 9 1;c0,5;", 1).shown(5, NONE), 1);
        due("H has one place: 0 is one 0", good("d0 9 1;c0,5;", 1).shown(0, NONE), 1);
        due("H has two", good("d0 10 1;c0,5;", 1).shown(5, NONE), 0);
        due("H has two: 0 is two", good("d0 10 1;c0,5;", 1).shown(0, NONE), 0);
        due("H has two: 00 by two cubes", good("d0 10 1;c0;c0;", 2).shown(0, 1), 1);
        due("without", good("d0 10 0;c0,5;", 1).shown(5, NONE), 1);
        due("without: 0 is one 0", good("d0 10 0;c0,5;", 1).shown(0, NONE), 1);
        due("without: 10 has two places", good("d0 10 0;c0,1;", 1).shown(10, NONE), 0);
        due("without: 9 has no second", good("d0 10 0;c9;c9;", 2).shown(9, 1), NONE);
    }

    // "first, once"; "another word first than 'd'"; "3 'd' again (at it)"
    private static void daysFirstAndOnce() {
        fault("c1;d0 0 0;", 1, 0);
        fault("t1 2;", 1, 0);
        fault("p1 2;", 1, 0);
        fault("  p1 2;", 1, 2);
        fault("d0 0 0;d0 0 0;", 3, 7);
        fault("d0 0 0;  d0 0 0;", 3, 9);
        fault("d0 0 0;c1;d", 3, 10);
        good("d0 0 0;c1;", 1);
    }

    // "4 CUBES at most"; "3 a fifth 'c' (at it)"
    private static void cubesAtMost() {
        goodBehind("", 0);
        goodBehind("c1;", 1);
        goodBehind("c1;c2;c3;", 3);
        CubeDays x = goodBehind("c1;c2;c3;c4;", 4);
        due("the fourth", x.side(3, 0), 4);
        due("no fifth", x.side(4, 0), UNKNOWN);
        faultBehind("c1;c2;c3;c4;c5;", 3, 12);
        faultBehind("c1;c2;c3;c4;t1 2; c", 3, 18);
        faultBehind("c1;c2;c3;c4;c,", 3, 12);
    }

    // "1 to 6 SIDES"; "a seventh F: at its ','"
    private static void sidesOfACube() {
        faultBehind("c;", 1, 1);
        due("one", goodBehind("c7;", 1).side(0, NONE), 1);
        due("two", goodBehind("c7,8;", 1).side(0, NONE), 2);
        due("five", goodBehind("c1,2,3,4,5;", 1).side(0, NONE), 5);
        CubeDays x = goodBehind("c1,2,3,4,5,6;", 1);
        due("six", x.side(0, NONE), 6);
        due("the sixth", x.side(0, 5), 6);
        due("no seventh", x.side(0, 6), OUTSIDE);
        faultBehind("c1,2,3,4,5,6,7;", 1, 12);
        faultBehind("c1,2,3,4,5,6 , 7;", 1, 13);
        faultBehind("c1,2,3,4,5,6,", 1, 12);
        faultBehind("c1,2,3,4,5,6,10;", 1, 12);
        faultBehind("c1,2,3,4,5,6 7;", 1, 13);
        due("the same more than once", goodBehind("c3,3,3,3,3,3;", 1).shows(0), 8);
    }

    // "FIGURES F 0 .. 9 each, in this order"
    private static void figuresWithinBounds() {
        CubeDays x = goodBehind("c9,0,5;", 1);
        due("in this order: 9", x.side(0, 0), 9);
        due("in this order: 0", x.side(0, 1), 0);
        due("in this order: 5", x.side(0, 2), 5);
        faultBehind("c10;", 2, 1);
        faultBehind("c9,10;", 2, 3);
        faultBehind("c9, 10;", 2, 4);
        faultBehind("c-1;", 1, 1);
        faultBehind("c1,2,3,4,5,10;", 2, 11);
    }

    // "'t' (4 at most)"; "3 a fifth 't' (at it)"
    private static void turnsAtMost() {
        goodBehind("t0 1;t2 3;t4 5;", 0);
        CubeDays x = goodBehind("t0 1;t2 3;t4 5;t6 7;", 0);
        due("the fourth", x.turned(7), 6);
        due("8 is itself", x.turned(8), 8);
        faultBehind("t0 1;t2 3;t4 5;t6 7;t8 9;", 3, 20);
        faultBehind("t0 1;t2 3;t4 5;t6 7;c1; t0 0;", 3, 24);
        faultBehind("t0 1;t2 3;t4 5;t6 7;t", 3, 20);
    }

    // "FIGURE A turned over is B, and B is A; unlike, neither in such a pair yet"; "4 A or B in a pair already, B like A"
    private static void turnsUnlikeAndNotYet() {
        CubeDays x = goodBehind("t0 9;", 0);
        due("A is B", x.turned(0), 9);
        due("B is A", x.turned(9), 0);
        faultBehind("t10 9;", 2, 1);
        faultBehind("t9 10;", 2, 3);
        faultBehind("t0 0;", 4, 3);
        faultBehind("t9 9;", 4, 3);
        faultBehind("t6 9;t6 1;", 4, 6);
        faultBehind("t6 9;t9 1;", 4, 6);
        faultBehind("t6 9;t1 6;", 4, 8);
        faultBehind("t6 9;t1 9;", 4, 8);
        faultBehind("t6 9;t6 9;", 4, 6);
        faultBehind("t6 9;t9 6;", 4, 6);
        due("others", goodBehind("t6 9;t1 2;", 0).turned(1), 2);
    }

    // "FIGURE A costs P to paint, 0 .. 99; 1 untold"
    private static void pricesWithinBounds() {
        due("P 0", goodBehind("p4 0;", 0).price(16), 0);
        due("P 1", goodBehind("p4 1;", 0).price(16), 1);
        due("P 98", goodBehind("p4 98;", 0).price(16), 98);
        due("P 99", goodBehind("p4 99;", 0).price(16), 99);
        due("untold", goodBehind("p4 99;", 0).price(32), 1);
        due("A 0", goodBehind("p0 5;", 0).price(1), 5);
        due("A 9", goodBehind("p9 5;", 0).price(512), 5);
        faultBehind("p4 100;", 2, 3);
        faultBehind("p4 -1;", 1, 3);
        faultBehind("p10 1;", 2, 1);
        faultBehind("p-1 1;", 1, 1);
        due("a price of one turned over is its own", goodBehind("t6 9;p6 7;", 0).price(512), 1);
    }

    // "each once"; "a price of A again (at the A)"
    private static void pricesOnce() {
        faultBehind("p4 5;p4 5;", 4, 6);
        faultBehind("p4 1;p 4 1;", 4, 7);
        faultBehind("p4 0;c1;p4", 4, 9);
        StringBuilder ten = new StringBuilder();
        for (int figure = 0; figure < 10; figure++) {
            ten.append('p').append(figure).append(' ').append(figure).append(';');
        }
        due("all ten", goodBehind(ten.toString(), 0).price(1023), 45);
        faultBehind(ten + "p0 1;", 4, 51);
    }

    // "NUMBERS have one to three figures"; "2 a NUMBER of four figures or more (at its first)"
    private static void numbersOfOneToThreeFigures() {
        due("one", good("d7 7 0;", 0).told(0), 7);
        due("two", good("d07 07 0;", 0).told(0), 7);
        due("three", good("d007 007 000;", 0).told(0), 7);
        due("three, each", good("d000 099 001;c009,000;t006 009;p009 099;", 1).price(512), 99);
        fault("d0007 7 0;", 2, 1);
        fault("d7 0007 0;", 2, 3);
        fault("d7 7 0000;", 2, 5);
        faultBehind("c0001;", 2, 1);
        faultBehind("c1,0002;", 2, 3);
        faultBehind("t0001 2;", 2, 1);
        faultBehind("t1 0002;", 2, 3);
        faultBehind("p0001 2;", 2, 1);
        faultBehind("p1 0002;", 2, 3);
        fault("d0 4294967296 0;", 2, 3);
        fault("d0 2147483648 0;", 2, 3);
        StringBuilder endless = new StringBuilder("d");
        while (endless.length() < 220) {
            endless.append('0');
        }
        fault(endless.toString(), 2, 1);
    }

    // "a word is one letter"; "a letter that is no word"
    private static void wordsOfOneLetter() {
        fault("dd0 0 0;", 1, 1);
        faultBehind("cc1;", 1, 1);
        faultBehind("D0 0 0;", 1, 0);
        faultBehind("C1;", 1, 0);
        faultBehind("1;", 1, 0);
        faultBehind(";", 1, 0);
        faultBehind(",", 1, 0);
        faultBehind("c1;,", 1, 3);
        for (int letter : new int[] {0, 9, 10, 31, 33, 47, 58, 60, 96, 98, 101, 113, 115, 117, 127, 128, 160, 255}) {
            faultBehind("" + (char) letter, 1, 0);
            faultBehind("c1" + (char) letter, 1, 2);
        }
    }

    // "blanks (32) may stand anywhere but within NUMBERS"
    private static void blanks() {
        CubeDays x = good("  d  1  12  1  ;  c  0  ,  1  ;  t  6  9  ;  p  6  12  ;  ", 1);
        due("L", x.told(0), 1);
        due("H", x.told(1), 12);
        due("sides", x.side(0, NONE), 2);
        due("turned", x.turned(6), 9);
        due("price", x.price(64), 12);
        fault("d1 1 2 1;", 2, 5);
        faultBehind("c1 0;", 1, 3);
        faultBehind("p1 1 2;", 1, 5);
        faultBehind("t1 2 3;", 1, 5);
    }

    // "two NUMBERS side by side need one"
    private static void twoNumbersSideBySide() {
        due("H", good("d1 31 1;", 0).told(1), 31);
        fault("d131 1;", 2, 1);
        fault("d1 311;", 2, 3);
        fault("d5 91;", 1, 5);
        faultBehind("t69;", 2, 1);
        faultBehind("p61;", 2, 1);
        due("none by a ','", goodBehind("c6,1;", 1).side(0, NONE), 2);
    }

    // "the end at the text's length"
    private static void theEnd() {
        for (String text : new String[] {"d", "d ", "d1", "d1 ", "d1 2", "d1 2 0", "d1 2 0 "}) {
            fault(text, 1, text.length());
        }
        for (String clause : new String[] {"c", "c1", "c1,", "c1,2", "c1,2,3,4,5,6", "t", "t1", "t1 2", "p", "p1", "p1 2",
            "c1;c", "c1 ", "c1, "}) {
            faultBehind(clause, 1, clause.length());
        }
        goodBehind("c1; ", 1);
    }

    // "FAULTS, at the first letter that has one"
    private static void theFirstLetterThatHasAFault() {
        fault("d5 4 2;", 4, 3);
        fault("d5 4x", 4, 3);
        fault("d5 4", 4, 3);
        fault("d100x", 2, 1);
        fault("d0 0 2", 2, 5);
        faultBehind("dx", 3, 0);
        faultBehind("c10,10,x", 2, 1);
        faultBehind("c1x10", 1, 2);
        faultBehind("t1 1x", 4, 3);
        faultBehind("t1 1;t10 1;", 4, 3);
        faultBehind("t6 9;t6 10;", 4, 6);
        faultBehind("p1 1;p1 100;", 4, 6);
        faultBehind("p1 1;p1x", 4, 6);
        faultBehind("p1 100;p1 1;", 2, 3);
    }

    // "of these the least": more than one fault at a letter
    private static void ofTheseTheLeast() {
        fault("1234", 1, 0);
        fault("d1 d1", 1, 3);
        faultBehind("c1;c1;c1;c1 c", 1, 12);
        faultBehind("c1;c1;c1;c1;t c", 1, 14);
        faultBehind("c1 1000;", 1, 3);
        faultBehind("c1,1,1,1,1,1,1000;", 1, 12);
        fault("d5 0004 0;", 2, 3);
        faultBehind("t6 9;t0006 1;", 2, 6);
        faultBehind("t6 9;t1 0009;", 2, 8);
        faultBehind("t1 0001;", 2, 3);
        faultBehind("p1 1;p0001 1;", 2, 6);
    }

    // "An empty text: no DAYS"
    private static void anEmptyText() {
        CubeDays x = Check.on("d3 17 1;c1;c2,3;t6 9;p5 5;");
        x.lose(0, true);
        due("an empty text", x.desk(), 0);
        due("no fault", x.fault(), NONE);
        for (int what = 0; what <= 10; what++) {
            due("an empty text: told " + what, x.told(what), 0);
        }
        due("no cubes", x.side(0, NONE), UNKNOWN);
        due("nothing is turned over", x.turned(6), 6);
        due("no price is told", x.price(1023), 10);
        due("no day is shown", x.shown(3, NONE), OUTSIDE);
        due("no day 0, either", x.shown(0, NONE), OUTSIDE);
        due("no day", x.days(), 0);
        due("no gap", x.gap(), NONE);
        due("blanks alone", good("    ", 0).told(10), 0);
    }

    // "-10 less the number of its FAULT (all else is as it was)"
    private static void aFaultLeavesAllAsItWas() {
        String[] faulty = {"d1 2 0;c5;t1 2;p1 5;x", "d1 2 0;c5;t1 2;p1 500;", "d1 2 0;c5;t1 2;p1 5;d", "d1 2 0;c5;t1 2;p1 5;t1 3;"};
        for (int i = 0; i < faulty.length; i++) {
            CubeDays x = Check.on("d3 17 1;c1;c2,3;t6 9;p5 5;");
            x.seed(9);
            x.keep(1);
            x.paint(0, 0, 5);
            x.lose(1, true);
            x.wrong(3, true);
            x.write(7);
            Check.feed(x, faulty[i]);
            due("the fault's number", x.desk(), -11 - i);
            int[] want = {3, 17, 1, 2, 0, 2, 5, 1, 1, 2, 1};
            for (int what = 0; what <= 10; what++) {
                due("with a fault all else is as it was: told " + what, x.told(what), want[what]);
            }
            due("side", x.side(0, 0), 5);
            due("sides", x.side(1, NONE), 2);
            due("turned", x.turned(6), 9);
            due("not turned", x.turned(1), 1);
            due("prices", x.price(1023), 14);
            due("the seed", x.seed(9), 9);
            due("can be undone", x.undo(), 1);
            due("the image", x.goBack(1), 1);
            due("is as it was", x.side(0, 0), 1);
        }
    }

    // "once", "4 at most", "each once", "neither in such a pair yet" hold within one text
    private static void eachTextIsReadByItself() {
        String all = "d0 3 0;c1;c2;c3;c4;t0 1;t2 3;t4 5;t6 7;p0 5;p8 6;";
        CubeDays x = new CubeDays();
        for (String first : new String[] {all, all + "x", "d3 2", all}) {
            Check.feed(x, first);
            x.desk();
            x.search(2, 0);
            Check.feed(x, all);
            due("the same text behind '" + first + "'", x.desk(), 4);
            due("no fault behind '" + first + "'", x.fault(), NONE);
        }
        due("0 and 2 show 0 to 3", x.search(2, 1), 1024 * 5 + 5);
        Check.feed(x, "d8 9 0;");
        due("another text", x.desk(), 0);
        due("8 and 9 are unlike now", x.search(1, 1), 1024 * 256 + 512);
        due("in one way", x.search(1, 0), 1);
        due("both days", x.most(1), 2);
        due("6 is not turned now", x.turned(6), 6);
        due("8 has no price now", x.price(256), 1);
    }
}
