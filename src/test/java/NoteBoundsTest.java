import java.math.BigInteger;

/**
 * Promises 3 and 26 to 34 (wrong days, the book, the seed, images) and how long an object is used: each bound, one below
 * it and one above it.
 */
public final class NoteBoundsTest {
    private static final int NONE = CubeDays.NONE, UNKNOWN = CubeDays.UNKNOWN, OUTSIDE = CubeDays.OUTSIDE;
    private static final int NOT = CubeDays.NOT, FULL = CubeDays.FULL;
    private static final int GREATEST = Integer.MAX_VALUE;

    public static void main(String[] args) {
        wrongDays();
        paintedOverBounds();
        lookOnBounds();
        book();
        tearAndJudge();
        seedBounds();
        theSeedWrapsRound();
        images();
        whatImagesKeep();
        deskForgets();
        fiveHundredAndTwelveCalls();
        Check.finish("NoteBoundsTest");
    }

    private static void due(String call, long got, long want) {
        Check.due(call, got, want);
    }

    // "WRONG DAYS (6 at most)"; "OUTSIDE, FULL (6)"
    private static void wrongDays() {
        CubeDays x = Check.on("d5 14 0;c5;");
        due("26: 4", x.wrong(4, true), OUTSIDE);
        due("26: 5", x.wrong(5, true), 1);
        due("26: 14", x.wrong(14, false), 2);
        due("26: 15", x.wrong(15, false), OUTSIDE);
        due("26: again, otherwise", x.wrong(14, true), 3);
        due("26: fourth", x.wrong(6, false), 4);
        due("26: fifth", x.wrong(6, false), 5);
        due("26: sixth", x.wrong(6, false), 6);
        due("26: seventh", x.wrong(6, false), FULL);
        due("26: outside ahead of full", x.wrong(4, false), OUTSIDE);
        due("26: told", x.told(7), 6);
        due("26: torn", x.tear(), 6);
        due("26: then the first", x.wrong(6, false), 1);
        due("26: no days", new CubeDays().wrong(0, true), OUTSIDE);
    }

    // "i = NONE how many, else the i-th; NONE"
    private static void paintedOverBounds() {
        CubeDays x = Check.on("d0 99 1;c0,1,2,3,4,5;c0,1,2,6,7,8;c3,4,5,9,9,9;c6,7,8,9,9,9;");
        due("27: all", x.paintedOver(NONE), 24 * 9);
        due("27: -2", x.paintedOver(-2), NONE);
        due("27: 0", x.paintedOver(0), 1);
        due("27: 214", x.paintedOver(214), 357);
        due("27: 215", x.paintedOver(215), 358);
        due("27: 216", x.paintedOver(216), NONE);
        due("27: far", x.paintedOver(GREATEST), NONE);
        due("27: far below", x.paintedOver(Integer.MIN_VALUE), NONE);
        due("27: the greatest of all", Check.on("d0 0 0;c1;c1;c1;c1,1,1,1,1,8;").paintedOver(80), 359);
        CubeDays one = Check.on("d5 5 0;c5;");
        one.wrong(5, true);
        due("27: none fits, as it has another", one.paintedOver(NONE), 0);
        due("27: no first", one.paintedOver(0), NONE);
        one.tear();
        one.wrong(5, false);
        due("27: all other figures", one.paintedOver(NONE), 9);
        due("27: the last", one.paintedOver(8), 9);
        due("27: no more", one.paintedOver(9), NONE);
    }

    // "of like ones the least; NONE: none parts them"
    private static void lookOnBounds() {
        due("28: L", Check.on("d5 9 0;c1;").lookOn(), 5);
        due("28: H", Check.on("d15 16 0;c1,1;c0;t6 9;").lookOn(), 16);
        due("28: one day", Check.on("d5 5 0;c1;").lookOn(), 5);
        due("28: one day that all miss", Check.on("d5 5 0;c5;").lookOn(), NONE);
        due("28: no cubes", Check.on("d5 5 0;").lookOn(), NONE);
        CubeDays x = Check.on("d0 9 0;c1;");
        x.lose(0, true);
        due("28: the lost one shows nothing", x.lookOn(), NONE);
        x.lose(0, false);
        x.wrong(4, true);
        due("28: one alone is not parted", x.lookOn(), NONE);
        x.wrong(4, false);
        due("28: nor none", x.lookOn(), NONE);
    }

    // "THE BOOK (15 at most)"; "An entry (0 .. 100) .. OUTSIDE, FULL (15)"
    private static void book() {
        CubeDays x = Check.on("d0 9 0;c1;");
        due("29: -1", x.write(-1), OUTSIDE);
        due("29: 0", x.write(0), 1);
        due("29: 1", x.write(1), 2);
        due("29: 99", x.write(99), 3);
        due("29: 100", x.write(100), 4);
        due("29: 101", x.write(101), OUTSIDE);
        for (int i = 5; i <= 13; i++) {
            due("29: more", x.write(1), i);
        }
        due("29: fourteenth", x.write(1), 14);
        due("29: fifteenth", x.write(1), 15);
        due("29: sixteenth", x.write(1), FULL);
        due("29: outside ahead of full", x.write(-1), OUTSIDE);
        due("29: outside ahead of full, above", x.write(101), OUTSIDE);
        due("29: told", x.told(8), 15);
    }

    // "how much both had"; "WRONG: the first entry that is otherwise now; NONE"
    private static void tearAndJudge() {
        CubeDays x = Check.on("d0 9 0;c1;");
        due("30: nothing", x.tear(), 0);
        due("31: empty", x.judge(), NONE);
        for (int i = 0; i < 15; i++) {
            due("31: none", x.judge(), NONE);
            x.write(i == 14 ? 2 : 1);
        }
        due("31: the last", x.judge(), 14);
        for (int i = 0; i < 6; i++) {
            x.wrong(i, true);
        }
        due("31: wrong days don't count", x.judge(), 14);
        x.lose(0, true);
        due("31: the first", x.judge(), 0);
        due("30: all", x.tear(), 21);
        due("30: nothing more", x.tear(), 0);
        due("31: empty again", x.judge(), NONE);
        x.write(0);
        due("31: 0 is so", x.judge(), NONE);
        CubeDays all = Check.on("d0 99 1;c0,1,2,3,4;c5,6,7,8,9;c0,1,2,3,4;c5,6,7,8,9;");
        all.write(100);
        due("31: 100 is so", all.judge(), NONE);
        all.write(99);
        due("31: 99 is not", all.judge(), 1);
    }

    // "THE SEED becomes v (0 .. 2147483647): what it was. OUTSIDE."
    private static void seedBounds() {
        CubeDays x = new CubeDays();
        due("32: 0 at first", x.seed(GREATEST), 0);
        due("32: -1", x.seed(-1), OUTSIDE);
        due("32: the least", x.seed(Integer.MIN_VALUE), OUTSIDE);
        due("32: the greatest", x.seed(GREATEST - 1), GREATEST);
        due("32: one less", x.seed(1), GREATEST - 1);
        due("32: 1", x.seed(0), 1);
        due("32: 0", x.seed(0), 0);
    }

    // "it times 1103515245 and 12345, left over by 2 to the 31; the DRAW of n is it / 65536, left over by n"
    private static void theSeedWrapsRound() {
        BigInteger times = BigInteger.valueOf(1103515245L);
        for (int start : new int[] {0, 1, 2, 65535, 65536, 1 << 30, GREATEST - 1, GREATEST}) {
            CubeDays x = Check.on("d0 9 0;c0;c1,2;c3,4,5;c6,7,8,9,0,1;");
            x.seed(start);
            x.drift(1);
            BigInteger s = BigInteger.valueOf(start);
            int[] draws = new int[3];
            int[] of = {4, 0, 10};
            for (int i = 0; i < 3; i++) {
                s = s.multiply(times).add(BigInteger.valueOf(12345)).mod(BigInteger.ONE.shiftLeft(31));
                draws[i] = s.intValueExact() / 65536 % of[i];
                if (i == 0) {
                    of[1] = x.side(draws[0], NONE);
                }
            }
            due("32: from " + start + " painted", x.side(draws[0], draws[1]), draws[2]);
            due("32: from " + start + " the seed", x.seed(0), s.intValueExact());
        }
    }

    // "IMAGES 0, 1"; "UNKNOWN", "NOT: it was not kept"
    private static void images() {
        CubeDays x = Check.on("d0 9 0;c0;");
        due("34: -1", x.goBack(-1), UNKNOWN);
        due("34: 0, not kept", x.goBack(0), NOT);
        due("34: 1, not kept", x.goBack(1), NOT);
        due("34: 2", x.goBack(2), UNKNOWN);
        due("33: -1", x.keep(-1), UNKNOWN);
        due("33: 2", x.keep(2), UNKNOWN);
        due("33: 1", x.keep(1), 1);
        due("34: 0, still not", x.goBack(0), NOT);
        x.paint(0, 0, 7);
        due("33: 0", x.keep(0), 1);
        due("34: 1", x.goBack(1), 1);
        due("34: as it was", x.side(0, 0), 0);
        due("34: 0", x.goBack(0), 1);
        due("34: as it was then", x.side(0, 0), 7);
        due("34: 0 again", x.goBack(0), 1);
    }

    // "IMAGES keep SIDES, who is LOST, COST, THE SEED" (and nothing else)
    private static void whatImagesKeep() {
        CubeDays x = Check.on("d0 9 0;c0;c1;");
        x.seed(11);
        x.paint(1, 0, 5);
        x.lose(0, true);
        x.keep(1);
        x.seed(12);
        x.paint(1, 0, 6);
        x.lose(0, false);
        x.wrong(3, true);
        x.write(4);
        x.feed('d');
        due("34: back", x.goBack(1), 1);
        due("34: side", x.side(1, 0), 5);
        due("34: lost", x.told(5), 1);
        due("34: cost", x.told(6), 1);
        due("34: undone", x.told(9), 0);
        due("34: wrong days stay", x.told(7), 1);
        due("34: the book stays", x.told(8), 1);
        due("34: the text stays", x.told(4), 1);
        due("34: the seed", x.seed(0), 11);
    }

    // "nothing LOST, COST 0; no WRONG DAYS, no BOOK; IMAGES, what could be undone are gone; THE SEED stays"
    private static void deskForgets() {
        CubeDays x = Check.on("d0 9 0;c0;c1;");
        x.seed(11);
        x.keep(0);
        x.keep(1);
        x.paint(1, 0, 5);
        x.lose(0, true);
        x.wrong(3, true);
        x.write(4);
        Check.feed(x, "d0 9 0;c0;c1;");
        due("3: cubes", x.desk(), 2);
        for (int what = 4; what <= 9; what++) {
            due("3: told " + what, x.told(what), 0);
        }
        due("3: side", x.side(1, 0), 1);
        due("3: undo", x.undo(), NOT);
        due("3: image 0", x.goBack(0), NOT);
        due("3: image 1", x.goBack(1), NOT);
        due("3: the seed stays", x.seed(0), 11);
    }

    // "An object is used for at most 512 calls after it has been made"
    private static void fiveHundredAndTwelveCalls() {
        CubeDays x = Check.on("d0 9 0;c0;");
        int calls = 11;
        for (; calls < 511; calls++) {
            due("call " + calls, x.paint(0, 0, calls % 10), calls - 10);
        }
        due("the 512th call", x.told(6), 500);
        // What later calls answer is free, but none may throw or fail to end.
        for (int i = 0; i < 3000; i++) {
            x.paint(0, 0, 1);
            x.drift(40);
            x.feed(i % 256);
            x.lookOn();
            x.undo();
        }
    }
}
