/**
 * Promises 1 to 25 with what parts 2 and 3 of the document say of them: each bound, one below it and one above it. That
 * a refused call changes nothing is seen by RefusalTest; the bounds of the text are in TextBoundsTest.
 */
public final class CallBoundsTest {
    private static final int NONE = CubeDays.NONE, UNKNOWN = CubeDays.UNKNOWN, OUTSIDE = CubeDays.OUTSIDE;
    private static final int NOT = CubeDays.NOT, FULL = CubeDays.FULL;
    /** Four cubes of six sides: the most there can be. */
    private static final String GREAT = "d0 99 1;c0,1,2,3,4,5;c0,1,2,6,7,8;c3,4,5,9,9,9;c6,7,8,9,9,9;";

    public static void main(String[] args) {
        aNewObject();
        letters();
        toldNumbers();
        cubesAndSides();
        figures();
        paintAtTheEdges();
        loseAtTheEdges();
        mornings();
        driftAboveTheCost();
        twentyCanBeUndone();
        theRingGoesRound();
        whatIsForgotten();
        daysOfLToH();
        places();
        unlikeCubes();
        shownDaysAndGap();
        mustNeverOnceTwice();
        searchBounds();
        mostBounds();
        goneAndWorst();
        instead();
        boardBounds();
        sumsBounds();
        priceBounds();
        cheapestBounds();
        Check.finish("CallBoundsTest");
    }

    private static void due(String call, long got, long want) {
        Check.due(call, got, want);
    }

    // "CubeDays(): No DAYS."
    private static void aNewObject() {
        CubeDays x = new CubeDays();
        for (int what = 0; what <= 10; what++) {
            due("1: told " + what, x.told(what), 0);
        }
        due("1: fault", x.fault(), NONE);
        due("1: no cube", x.side(0, NONE), UNKNOWN);
        due("1: no day", x.shown(0, NONE), OUTSIDE);
        due("1: shown days", x.days(), 0);
        due("1: gap", x.gap(), NONE);
        due("1: must", x.must(0), 0);
        due("1: all pairs of one show all of no days", x.search(1, 0), 10 * 11 / 2);
        due("1: the first of them", x.search(1, 1), 1024 + 1);
        due("1: all pairs of five", x.search(5, 0), 252 * 253 / 2);
        due("1: the most", x.most(1), 0);
        due("1: worst", x.worst(), NONE);
        due("1: board", x.board(5, 0), 0);
        due("1: sums", x.sums(0), 1);
        due("1: no other sums", x.sums(1), 0);
        due("1: cheapest", x.cheapest(1), NONE);
        due("1: painted over", x.paintedOver(NONE), 0);
        due("1: no first", x.paintedOver(0), NONE);
        due("1: look on", x.lookOn(), NONE);
        due("1: judge", x.judge(), NONE);
        due("1: undo", x.undo(), NOT);
        due("1: tear", x.tear(), 0);
        due("1: the seed", x.seed(0), 0);
    }

    // "One letter (a number 0 .. 255) .. OUTSIDE, FULL (220)."
    private static void letters() {
        CubeDays x = new CubeDays();
        due("2: -1", x.feed(-1), OUTSIDE);
        due("2: 0", x.feed(0), 1);
        due("2: 1", x.feed(1), 2);
        due("2: 254", x.feed(254), 3);
        due("2: 255", x.feed(255), 4);
        due("2: 256", x.feed(256), OUTSIDE);
        due("2: a blank beyond a byte", x.feed(256 + 32), OUTSIDE);
        for (int i = 5; i <= 218; i++) {
            x.feed(' ');
        }
        due("2: 219", x.feed(' '), 219);
        due("2: 220", x.feed(' '), 220);
        due("2: 221", x.feed(' '), FULL);
        due("2: outside ahead of full", x.feed(-1), OUTSIDE);
        due("2: told", x.told(4), 220);
    }

    // "0 L .. 10 1 there are DAYS, 0 not. OUTSIDE."
    private static void toldNumbers() {
        CubeDays x = Check.on("d4 5 1;");
        due("5: -1", x.told(-1), OUTSIDE);
        due("5: 0", x.told(0), 4);
        due("5: 1", x.told(1), 5);
        due("5: 9", x.told(9), 0);
        due("5: 10", x.told(10), 1);
        due("5: 11", x.told(11), OUTSIDE);
    }

    // "UNKNOWN (a CUBE .. that there is not)", "OUTSIDE (no such SIDE)", "f NONE: how many SIDES it has"
    private static void cubesAndSides() {
        CubeDays x = Check.on(GREAT);
        due("6: -1", x.side(-1, 0), UNKNOWN);
        due("6: first", x.side(0, 0), 0);
        due("6: fourth", x.side(3, 0), 6);
        due("6: fifth", x.side(4, 0), UNKNOWN);
        due("6: f -2", x.side(3, -2), OUTSIDE);
        due("6: f NONE", x.side(3, NONE), 6);
        due("6: f 5", x.side(3, 5), 9);
        due("6: f 6", x.side(3, 6), OUTSIDE);
        due("8: -1", x.shows(-1), UNKNOWN);
        due("8: first", x.shows(0), 63);
        due("8: fourth", x.shows(3), 64 + 128 + 256 + 512);
        due("8: fifth", x.shows(4), UNKNOWN);
        due("19: f -1", x.gone(3, -1), OUTSIDE);
        due("19: f 0", x.gone(3, 0) >= 0 ? 1 : 0, 1);
        due("19: f 5", x.gone(3, 5), 0);
        due("19: f 6", x.gone(3, 6), OUTSIDE);
        due("19: c 4", x.gone(4, 0), UNKNOWN);
        due("21: f -1", x.instead(3, -1), OUTSIDE);
        due("21: f 5", x.instead(3, 5) >= 0 ? 1 : 0, 1);
        due("21: f 6", x.instead(3, 6), OUTSIDE);
        due("21: c 4", x.instead(4, 0), UNKNOWN);
        CubeDays small = Check.on("d0 9 0;c7;");
        due("6: its only side", small.side(0, 0), 7);
        due("6: no second", small.side(0, 1), OUTSIDE);
        due("6: one side", small.side(0, NONE), 1);
        due("6: no second cube", small.side(1, NONE), UNKNOWN);
    }

    // "UNKNOWN (a .. FIGURE .. that there is not)"
    private static void figures() {
        CubeDays x = Check.on("d0 99 0;t0 9;c1;");
        due("7: -1", x.turned(-1), UNKNOWN);
        due("7: 0", x.turned(0), 9);
        due("7: 1, nothing else", x.turned(1), 1);
        due("7: 9", x.turned(9), 0);
        due("7: 10", x.turned(10), UNKNOWN);
        due("16: -1", x.must(-1), UNKNOWN);
        due("16: 0", x.must(0), 2);
        due("16: 9", x.must(9), 2);
        due("16: 10", x.must(10), UNKNOWN);
    }

    // "PAINTED: COST. UNKNOWN, OUTSIDE (no such SIDE)."
    private static void paintAtTheEdges() {
        CubeDays x = Check.on("d0 9 0;c1,2;c3;p0 0;p9 99;");
        due("9: c -1", x.paint(-1, 0, 9), UNKNOWN);
        due("9: c 2", x.paint(2, 0, 9), UNKNOWN);
        due("9: figure -1", x.paint(0, 0, -1), UNKNOWN);
        due("9: figure 10", x.paint(0, 0, 10), UNKNOWN);
        due("9: f -1", x.paint(0, -1, 9), OUTSIDE);
        due("9: f 2", x.paint(0, 2, 9), OUTSIDE);
        due("9: f 1 of the second", x.paint(1, 1, 9), OUTSIDE);
        due("9: nothing has been painted", x.told(6) + x.told(9), 0);
        due("9: the dearest", x.paint(0, 0, 9), 99);
        due("9: the cheapest", x.paint(1, 0, 0), 99);
        due("9: it could be undone, too", x.told(9), 2);
        due("9: the last side", x.paint(0, 1, 8), 100);
        due("9: sides", 100 * x.side(0, 0) + 10 * x.side(0, 1) + x.side(1, 0), 980);
    }

    // "A CUBE is LOST (is), or FOUND: 1 it was LOST, 0 not. UNKNOWN."
    private static void loseAtTheEdges() {
        CubeDays x = Check.on(GREAT);
        due("10: -1", x.lose(-1, true), UNKNOWN);
        due("10: 4", x.lose(4, true), UNKNOWN);
        due("10: far, as a shift would see it", x.lose(32, true), UNKNOWN);
        due("10: none is lost", x.told(5), 0);
        due("10: found while it is there", x.lose(3, false), 0);
        due("10: 0", x.lose(0, true), 0);
        due("10: 3", x.lose(3, true), 0);
        due("10: a set", x.told(5), 1 + 8);
        due("10: lost while it is lost", x.lose(3, true), 1);
        due("10: 1", x.lose(1, true), 0);
        due("10: 2", x.lose(2, true), 0);
        due("10: all", x.told(5), 15);
        due("10: no day is shown", x.days(), 0);
        due("10: found", x.lose(3, false), 1);
        due("10: the others are not", x.told(5), 7);
        due("10: seven can be undone", x.told(9), 7);
    }

    // "n mornings (1 .. 40) BY DRAWS: COST. OUTSIDE, NOT: no CUBES"
    private static void mornings() {
        StringBuilder text = new StringBuilder("d0 9 0;c1,2;c3;");
        for (int figure = 0; figure < 10; figure++) {
            text.append('p').append(figure).append(" 10;");
        }
        CubeDays x = Check.on(text.toString());
        due("11: 0", x.drift(0), OUTSIDE);
        due("11: 1", x.drift(1), 10);
        due("11: 2", x.drift(2), 30);
        due("11: 39", x.drift(39), 420);
        due("11: 40", x.drift(40), 820);
        due("11: 41", x.drift(41), OUTSIDE);
        due("11: -1", x.drift(-1), OUTSIDE);
        due("11: the cost is as it was", x.told(6), 820);
        due("11: one drift is one to be undone", x.told(9), 4);
        x.lose(0, true);
        x.lose(1, true);
        due("11: lost ones are painted, too", x.drift(1), 830);
        CubeDays none = Check.on("d0 9 0;");
        due("11: no cubes", none.drift(1), NOT);
        due("11: no cubes, 40", none.drift(40), NOT);
        due("11: outside ahead of not", none.drift(0), OUTSIDE);
        due("11: outside ahead of not, 41", none.drift(41), OUTSIDE);
        due("11: one cube is enough", Check.on("d0 9 0;c1;").drift(1), 1);
    }

    // "FULL: COST is above 900000": at 90 each, 250 drifts of 40 cost just that
    private static void driftAboveTheCost() {
        StringBuilder text = new StringBuilder("d0 9 0;c1;c2;");
        for (int figure = 0; figure < 10; figure++) {
            text.append('p').append(figure).append(" 90;");
        }
        CubeDays x = Check.on(text.toString());
        for (int i = 0; i < 249; i++) {
            x.drift(40);
        }
        due("11: near", x.told(6), 896400);
        due("11: 40 more", x.drift(40), 900000);
        due("11: it is no more than 900000, so it goes on", x.drift(1), 900090);
        due("11: above", x.drift(1), FULL);
        due("11: outside ahead of full", x.drift(0), OUTSIDE);
        due("11: the cost is as it was", x.told(6), 900090);
        due("11: paint is not refused", x.paint(1, 0, 5), 900180);
        due("11: nor lose", x.lose(1, true), 0);
        due("11: undone", x.undo(), 19);
        x.undo();
        due("11: undone to above", x.drift(40), FULL);
        x.undo();
        due("11: undone to 900000", x.told(6), 900000);
        due("11: goes on", x.drift(40), 903600);
    }

    // "20 at most are kept, the oldest are lost"; "how many more can be. NOT: none."
    private static void twentyCanBeUndone() {
        for (int done = 0; done <= 22; done++) {
            CubeDays x = Check.on("d0 9 0;c0;");
            for (int i = 1; i <= done; i++) {
                due("12: cost", x.paint(0, 0, i % 10), i);
                due("12: kept", x.told(9), Math.min(i, 20));
            }
            int kept = Math.min(done, 20);
            for (int i = kept - 1; i >= 0; i--) {
                due("12: after " + done + " undo", x.undo(), i);
            }
            due("12: after " + done + " none", x.undo(), NOT);
            due("12: the oldest are lost", x.told(6), done - kept);
            due("12: the side", x.side(0, 0), (done - kept) % 10);
        }
    }

    private static void theRingGoesRound() {
        CubeDays x = Check.on("d0 9 0;c0;");
        int painted = 0;
        for (int round = 0; round < 4; round++) {
            for (int i = 0; i < 25; i++) {
                painted = x.paint(0, 0, (painted + 1) % 10);
            }
            for (int i = 0; i < 13; i++) {
                due("12: round " + round, x.undo(), 19 - i);
                painted--;
                due("12: the cost of round " + round, x.told(6), painted);
                due("12: the side of round " + round, x.side(0, 0), painted % 10);
            }
        }
    }

    // "UNDONE: the latest of paint(), lose(), drift() that was not refused"; "IMAGES, what could be undone are gone"
    private static void whatIsForgotten() {
        CubeDays x = Check.on("d0 9 0;c0;");
        x.seed(5);
        x.wrong(1, true);
        x.write(1);
        x.tear();
        x.feed('d');
        x.desk();
        x.paint(1, 0, 0);
        x.lose(1, true);
        x.drift(0);
        due("12: none of these is undone", x.undo(), NOT);
        x.paint(0, 0, 4);
        x.undo();
        due("12: undo is not undone", x.undo(), NOT);
        x.paint(0, 0, 4);
        x.keep(0);
        due("12: nothing can be undone behind keep()", x.undo(), NOT);
        x.paint(0, 0, 5);
        x.goBack(0);
        due("12: nothing can be undone behind goBack()", x.undo(), NOT);
        x.paint(0, 0, 5);
        x.goBack(1);
        x.keep(2);
        due("12: refused, they forget nothing", x.told(9), 1);
        Check.feed(x, "d0 9 0;c0;");
        x.desk();
        due("12: nothing can be undone behind desk()", x.undo(), NOT);
        x.drift(40);
        int seed = x.seed(0);
        x.seed(seed);
        x.undo();
        due("12: the seed stays", x.seed(0), seed);
        due("12: the cost is as ahead of it", x.told(6), 0);
        due("12: the side is as ahead of it", x.side(0, 0), 0);
    }

    // "OUTSIDE (a DAY not of L to H)"
    private static void daysOfLToH() {
        CubeDays x = Check.on("d5 14 0;c5,4;c1;");
        due("13: 4", x.shown(4, NONE), OUTSIDE);
        due("13: 5", x.shown(5, NONE), 1);
        due("13: 6", x.shown(6, NONE), 0);
        due("13: 13", x.shown(13, NONE), 0);
        due("13: 14", x.shown(14, NONE), 1);
        due("13: 15", x.shown(15, NONE), OUTSIDE);
        due("13: 15, place 0", x.shown(15, 0), OUTSIDE);
        due("13: 4, place 7", x.shown(4, 7), OUTSIDE);
        CubeDays all = Check.on("d0 99 0;c0;c9;c9;");
        due("13: -1", all.shown(-1, NONE), OUTSIDE);
        due("13: 0", all.shown(0, NONE), 1);
        due("13: 99", all.shown(99, NONE), 1);
        due("13: 100", all.shown(100, NONE), OUTSIDE);
        CubeDays one = Check.on("d7 7 0;c7;");
        due("13: one day, below", one.shown(6, NONE), OUTSIDE);
        due("13: one day", one.shown(7, 0), 0);
        due("13: one day, above", one.shown(8, NONE), OUTSIDE);
    }

    // "else the CUBE of the i-th place (HOW); NONE"
    private static void places() {
        CubeDays x = Check.on("d5 14 0;c5,4;c1;");
        due("13: place -2", x.shown(14, -2), NONE);
        due("13: place 0", x.shown(14, 0), 1);
        due("13: place 1", x.shown(14, 1), 0);
        due("13: place 2", x.shown(14, 2), NONE);
        due("13: far", x.shown(14, Integer.MAX_VALUE), NONE);
        due("13: far below", x.shown(14, Integer.MIN_VALUE), NONE);
        due("13: one place, 0", x.shown(5, 0), 0);
        due("13: one place, 1", x.shown(5, 1), NONE);
        due("13: not shown, 0", x.shown(13, 0), NONE);
        due("13: not shown, 1", x.shown(13, 1), NONE);
        CubeDays noughts = Check.on("d5 14 1;c5,4;c1,0;");
        due("13: a nought ahead", noughts.shown(5, 0), 1);
        due("13: behind it", noughts.shown(5, 1), 0);
        due("13: no more", noughts.shown(5, 2), NONE);
    }

    // "if there are CUBES, unlike ones, not LOST, one for each place"; "the first such (.. the lesser CUBE)"
    private static void unlikeCubes() {
        CubeDays x = Check.on("d11 12 0;c1,2;c1;c1;c2;");
        due("13: 11, first", x.shown(11, 0), 0);
        due("13: 11, second", x.shown(11, 1), 1);
        due("13: 12, first", x.shown(12, 0), 0);
        due("13: 12, second", x.shown(12, 1), 3);
        x.lose(3, true);
        due("13: 12, the first gives way", x.shown(12, 0), 1);
        due("13: 12, to the second", x.shown(12, 1), 0);
        x.lose(1, true);
        due("13: 12, the next", x.shown(12, 0), 2);
        x.lose(2, true);
        due("13: one cube is not enough", x.shown(12, NONE), 0);
        due("13: nor for 11", x.shown(11, NONE), 0);
        x.lose(2, false);
        due("13: it is found", x.shown(11, 1), 2);
    }

    // "SHOWN DAYS: how many of L to H are SHOWN; GAP: the first that is not; NONE"
    private static void shownDaysAndGap() {
        CubeDays x = Check.on("d0 99 1;c0,1,2,3,4;c5,6,7,8,9;c0,1,2,3,4;c5,6,7,8,9;");
        due("14: all hundred", x.days(), 100);
        due("15: none", x.gap(), NONE);
        x.paint(3, 4, 8);
        due("14: without 99", x.days(), 99);
        due("15: the last", x.gap(), 99);
        x.paint(2, 0, 1);
        due("14: without 00, too", x.days(), 98);
        due("15: the first", x.gap(), 0);
        due("14: one", Check.on("d5 9 0;c5;").days(), 1);
        due("14: none", Check.on("d5 9 0;c4;").days(), 0);
        due("14: no cubes", Check.on("d5 9 0;").days(), 0);
        due("15: no cubes", Check.on("d5 9 0;").gap(), 5);
        due("15: H", Check.on("d5 6 0;c5;").gap(), 6);
        due("15: one day, not", Check.on("d5 5 0;c4;").gap(), 5);
        due("15: one day", Check.on("d5 5 0;c5;").gap(), NONE);
    }

    // "MUST: how often a FIGURE must be there at least .. by the DAY that has it, or what it is turned over, most often"
    private static void mustNeverOnceTwice() {
        due("16: 10 has one 1", Check.on("d1 10 0;").must(1), 1);
        due("16: 11 has two", Check.on("d1 11 0;").must(1), 2);
        due("16: not from 12 on", Check.on("d12 20 0;").must(1), 1);
        due("16: nor from 20 to 20", Check.on("d20 20 0;").must(1), 0);
        due("16: 0 at 9, with noughts", Check.on("d1 9 1;").must(0), 0);
        due("16: 0 at 10, without", Check.on("d1 10 0;").must(0), 1);
        due("16: 0 at 10, with", Check.on("d1 10 1;").must(0), 1);
        due("16: 00", Check.on("d0 10 1;").must(0), 2);
        due("16: 0 alone", Check.on("d0 9 1;").must(0), 1);
        due("16: 69", Check.on("d67 69 0;t6 9;").must(9), 2);
        due("16: up to 68", Check.on("d67 68 0;t6 9;").must(9), 1);
    }

    // "two CUBES of n SIDES each (1 .. 6 ..)"; "OUTSIDE"
    private static void searchBounds() {
        CubeDays x = Check.on("d11 11 0;t6 9;");
        due("17: 0", x.search(0, 0), OUTSIDE);
        due("17: 1", x.search(1, 0), 1);
        due("17: 6, of 8 others 5 more each", x.search(6, 0), 56 * 57 / 2);
        due("17: 7", x.search(7, 0), OUTSIDE);
        due("17: what -1", x.search(1, -1), OUTSIDE);
        due("17: what 1", x.search(1, 1), 1024 * 2 + 2);
        due("17: what 2", x.search(1, 2), OUTSIDE);
        due("17: 6, the first pair", x.search(6, 1), 1024 * 63 + 63);
        CubeDays four = Check.on("d0 99 1;t0 1;t2 3;t4 5;t6 7;");
        due("17: four pairs leave six: one way", four.search(6, 0), 1);
        int all = 1 + 4 + 16 + 64 + 256 + 512;
        due("17: with all on both", four.search(6, 1), 1024 * all + all);
        due("17: five of them are too few", four.search(5, 0), 0);
        due("17: no pair", four.search(5, 1), NONE);
        due("17: the greatest pair", Check.on("d99 99 0;").search(1, 1), 1024 * 512 + 512);
        due("17: the first no greater than the second", Check.on("d21 21 0;").search(1, 1), 1024 * 2 + 4);
        due("17: cubes that are there or lost don't count", Check.on("d21 21 0;c2;c1;c5;").search(1, 0), 1);
    }

    // "MOST: by such pairs the most DAYS that are SHOWN"; "OUTSIDE"
    private static void mostBounds() {
        CubeDays x = Check.on("d0 99 0;");
        due("18: 0", x.most(0), OUTSIDE);
        due("18: 1, two figures and 12, 21", x.most(1), 4);
        due("18: 7", x.most(7), OUTSIDE);
        due("18: -1", x.most(-1), OUTSIDE);
        due("18: all", Check.on("d0 99 1;t0 1;t2 3;t4 5;t6 7;").most(6), 100);
        due("18: all of one", Check.on("d99 99 0;").most(1), 1);
        due("18: five each for ten", Check.on("d0 9 0;").most(5), 10);
        due("18: four each for eight", Check.on("d0 9 0;").most(4), 8);
    }

    // "GONE", "WORST: .. of like ones the least; NONE: no such"
    private static void goneAndWorst() {
        due("20: the last side of the last cube", Check.on("d0 1 0;c2;c3;c4;c5,5,5,5,5,1;").worst(), 35);
        due("20: of like ones the least", Check.on("d0 1 0;c2;c3,0;c4;c5,5,5,5,5,1;").worst(), 11);
        due("20: nothing is gone anywhere", Check.on("d0 1 0;c2;c3;").worst(), 0);
        CubeDays spare = Check.on("d0 99 1;c0,2,4,6,8,9;c0,2,4,6,8,9;c0,2,4,6,8,9;c0,2,4,6,8,9;t0 1;t2 3;t4 5;t6 7;");
        due("20: all hundred stay, whatever is blank", spare.worst(), 0);
        spare.lose(0, true);
        spare.lose(1, true);
        due("20: with two cubes a side is missed", spare.worst(), 20);
        CubeDays x = Check.on("d0 1 0;c0;c1;");
        due("20: the first", x.worst(), 0);
        x.lose(0, true);
        due("20: not the lost one", x.worst(), 10);
        due("19: nothing by the lost one", x.gone(0, 0), 0);
        due("19: one by the other", x.gone(1, 0), 1);
        x.lose(1, true);
        due("20: no such", x.worst(), NONE);
        due("20: no cubes", Check.on("d0 1 0;").worst(), NONE);
        due("19: all", Check.on("d1 1 0;c1;").gone(0, 0), 1);
        due("19: none, as it is there twice", Check.on("d1 1 0;c1,1;").gone(0, 0), 0);
        due("19: none, as the other has it", Check.on("d1 1 0;c1;c1;").gone(0, 0), 0);
        due("19: all hundred", Check.on("d0 99 1;c0,1,2,3,4;c5,6,7,8,9;c0,1,2,3,4;c5,6,7,8,9;").gone(0, 0), 1);
    }

    // "INSTEAD: .. of like ones the cheapest, then the least"
    private static void instead() {
        due("21: the greatest figure", Check.on("d9 9 0;c0;").instead(0, 0), 9);
        due("21: the least figure", Check.on("d0 0 0;c9;").instead(0, 0), 0);
        due("21: of like ones the least", Check.on("d0 9 0;c9;").instead(0, 0), 0);
        due("21: of like ones the cheapest", Check.on("d0 9 0;c9;p7 0;").instead(0, 0), 7);
        due("21: of the cheapest the least", Check.on("d0 9 0;c9;p7 0;p8 0;").instead(0, 0), 7);
        due("21: most is ahead of cheap", Check.on("d6 6 0;c9;p6 99;p7 0;").instead(0, 0), 6);
        CubeDays x = Check.on("d0 1 0;c0;c1;c5;");
        due("21: all are shown", x.instead(2, 0), 0);
        x.paint(1, 0, 7);
        due("21: now 1 is missing", x.instead(2, 0), 1);
        x.lose(0, true);
        due("21: now 0, too", x.instead(2, 0), 0);
        due("21: none shows: the cheapest", Check.on("d66 66 0;c9;p8 0;").instead(0, 0), 8);
    }

    // "BOARD for k DAYS at once (1 .. 5 ..)"; "UNKNOWN, OUTSIDE"
    private static void boardBounds() {
        CubeDays x = Check.on("d0 99 0;t6 9;");
        due("22: k 0", x.board(0, 4), OUTSIDE);
        due("22: k 1", x.board(1, 4), 2);
        due("22: k 5", x.board(5, 4), 10);
        due("22: k 6", x.board(6, 4), OUTSIDE);
        due("22: -1", x.board(1, -1), UNKNOWN);
        due("22: 0", x.board(1, 0), 1);
        due("22: 9, of which 6 is the lesser", x.board(5, 9), 0);
        due("22: 6", x.board(5, 6), 10);
        due("22: 10", x.board(1, 10), UNKNOWN);
        due("22: unknown ahead of outside", x.board(0, 10), UNKNOWN);
        due("22: unknown ahead of outside, below", x.board(6, -1), UNKNOWN);
        due("22: 9 by itself", Check.on("d0 99 0;").board(5, 9), 10);
    }

    // "sum up to s (0 .. 36)"; "OUTSIDE"
    private static void sumsBounds() {
        CubeDays x = Check.on("d0 0 0;c9,9,9,9,9,9;c9,9,9,9,9,9;c9,9,9,9,9,9;c9,9,9,9,9,0;");
        due("23: -1", x.sums(-1), OUTSIDE);
        due("23: 0", x.sums(0), 0);
        due("23: 27", x.sums(27), 216);
        due("23: 35", x.sums(35), 0);
        due("23: 36", x.sums(36), 1080);
        due("23: 37", x.sums(37), OUTSIDE);
        due("23: all noughts", Check.on("d0 0 0;c0,0;c0,0,0;").sums(0), 6);
        due("23: all ways there are", Check.on("d0 0 0;c0,0,0,0,0,0;c0,0,0,0,0,0;c0,0,0,0,0,0;c0,0,0,0,0,0;").sums(0), 1296);
        x.lose(0, true);
        due("23: the first is lost", x.sums(27), 180);
        due("23: so there is no more", x.sums(36), 0);
        x.lose(3, true);
        due("23: the last, too", x.sums(18), 36);
        for (int c = 1; c < 3; c++) {
            x.lose(c, true);
        }
        due("23: all are lost: 0", x.sums(0), 1);
        due("23: all are lost: 9", x.sums(9), 0);
        due("23: as they are, not turned", Check.on("d0 0 0;c6;t6 9;").sums(9), 0);
    }

    // "PRICE of a SET of FIGURES"; "UNKNOWN (.. bits of such)"
    private static void priceBounds() {
        StringBuilder text = new StringBuilder("d0 0 0;");
        for (int figure = 0; figure < 10; figure++) {
            text.append('p').append(figure).append(' ').append(99 - figure).append(';');
        }
        CubeDays x = Check.on(text.toString());
        due("24: 0", x.price(0), 0);
        due("24: 1", x.price(1), 99);
        due("24: 512", x.price(512), 90);
        due("24: 1023", x.price(1023), 945);
        due("24: 1024", x.price(1024), UNKNOWN);
        due("24: 1025, with a good bit", x.price(1025), UNKNOWN);
        due("24: -1", x.price(-1), UNKNOWN);
        due("24: the highest bit", x.price(Integer.MIN_VALUE), UNKNOWN);
        due("24: bit 30", x.price(1 << 30), UNKNOWN);
    }

    // "CHEAPEST: what = 0 FIGURE, 1 CUBE and SIDE; NONE. OUTSIDE."
    private static void cheapestBounds() {
        CubeDays x = Check.on("d9 9 0;c0;c1;c2;c3,3,3,3,3,3;");
        due("25: -1", x.cheapest(-1), OUTSIDE);
        due("25: 0", x.cheapest(0), 9);
        due("25: 1", x.cheapest(1), 0);
        due("25: 2", x.cheapest(2), OUTSIDE);
        for (int c = 0; c < 3; c++) {
            x.lose(c, true);
        }
        due("25: the last cube", x.cheapest(1), 30);
        x.lose(3, true);
        due("25: all are lost", x.cheapest(0), NONE);
        due("25: no gap", Check.on("d9 9 0;c9;").cheapest(1), NONE);
        due("25: none does", Check.on("d99 99 0;c1;").cheapest(0), NONE);
        due("25: none does, where", Check.on("d99 99 0;c1;").cheapest(1), NONE);
        due("25: no cubes", Check.on("d9 9 0;").cheapest(0), NONE);
        due("25: not on the cube that has the other figure", Check.on("d12 19 0;c2,3,1;c8,8,7;").cheapest(1), 10);
        due("25: 0 itself", Check.on("d0 0 0;c1;").cheapest(0), 0);
        due("25: of like ones the least", Check.on("d6 6 0;c1;t6 9;p6 5;p9 5;").cheapest(0), 6);
        due("25: the cheaper", Check.on("d6 6 0;c1;t6 9;p6 5;p9 4;").cheapest(0), 9);
        due("25: only the first gap", Check.on("d5 7 0;c1;p5 9;").cheapest(0), 5);
    }
}
