/** Each promise by itself: ordinary inputs, the edges that the document names, wrong inputs. */
public final class PromisesTest {
    private static final int NONE = CubeDays.NONE, UNKNOWN = CubeDays.UNKNOWN, OUTSIDE = CubeDays.OUTSIDE;
    private static final int NOT = CubeDays.NOT, FULL = CubeDays.FULL;

    private static void due(String call, long got, long want) {
        Check.due(call, got, want);
    }

    public static void main(String[] args) {
        aNewObject();
        feed();
        desk();
        faultsOfWordsAndNumbers();
        faultsOfClauses();
        told();
        side();
        turned();
        shows();
        paint();
        lose();
        drift();
        undo();
        shown();
        days();
        gap();
        must();
        search();
        most();
        gone();
        worst();
        instead();
        board();
        sums();
        price();
        cheapest();
        wrong();
        paintedOver();
        lookOn();
        write();
        tear();
        judge();
        seed();
        keep();
        goBack();
        Check.finish("PromisesTest");
    }

    private static void aNewObject() {
        CubeDays x = new CubeDays();
        for (int what = 0; what <= 10; what++) {
            due("1: told(" + what + ")", x.told(what), 0);
        }
        due("1: fault()", x.fault(), NONE);
        due("1: side", x.side(0, NONE), UNKNOWN);
        due("1: shows", x.shows(0), UNKNOWN);
        due("1: paint", x.paint(0, 0, 0), UNKNOWN);
        due("1: lose", x.lose(0, true), UNKNOWN);
        due("1: shown", x.shown(0, NONE), OUTSIDE);
        due("1: days", x.days(), 0);
        due("1: wrong", x.wrong(0, true), OUTSIDE);
        due("1: turned", x.turned(6), 6);
        due("1: price", x.price(1023), 10);
        due("1: seed", x.seed(1), 0);
        due("1: goBack", x.goBack(0), NOT);
    }

    private static void feed() {
        CubeDays x = new CubeDays();
        due("2: below", x.feed(-1), OUTSIDE);
        due("2: above", x.feed(256), OUTSIDE);
        due("2: least", x.feed(0), 1);
        due("2: greatest", x.feed(255), 2);
        for (int i = 3; i <= 220; i++) {
            due("2: letter", x.feed(' '), i);
        }
        due("2: full", x.feed(' '), FULL);
        due("2: outside goes ahead of full", x.feed(256), OUTSIDE);
        due("2: told(4)", x.told(4), 220);
        due("2: desk", x.desk(), -11);
        due("2: emptied", x.feed(' '), 1);
    }

    private static void desk() {
        CubeDays x = Check.on(Check.DESK);
        x.seed(77);
        x.paint(0, 0, 6);
        x.lose(1, true);
        x.wrong(3, true);
        x.write(5);
        x.keep(0);
        x.lose(0, true);
        Check.feed(x, "d1 2 0;x");
        due("3: fault", x.desk(), -11);
        int[] kept = {1, 31, 1, 2, 0, 3, 9, 1, 1, 1, 1};
        for (int what = 0; what <= 10; what++) {
            due("3: with a fault all else is as it was, told " + what, x.told(what), kept[what]);
        }
        due("3: image stays with a fault", x.goBack(0), 1);
        x.lose(0, true);
        Check.feed(x, "d0 9 0;c1,2,2;");
        due("3: cubes", x.desk(), 1);
        int[] fresh = {0, 9, 0, 1, 0, 0, 0, 0, 0, 0, 1};
        for (int what = 0; what <= 10; what++) {
            due("3: fresh told " + what, x.told(what), fresh[what]);
        }
        due("3: image gone", x.goBack(0), NOT);
        due("3: nothing to undo", x.undo(), NOT);
        due("3: seed stays", x.seed(0), 77);
        due("3: figures turned over are told anew", x.turned(6), 6);
        due("3: prices are told anew", x.price(1023), 10);
        due("3: side", x.side(0, 2), 2);
        due("3: an empty text", x.desk(), 0);
        due("3: no days", x.told(10), 0);
        due("3: no cubes", x.told(3), 0);
        Check.feed(x, "   ");
        due("3: blanks alone", x.desk(), 0);
    }

    private static void fault(String text, int number, int at) {
        CubeDays x = new CubeDays();
        Check.feed(x, text);
        int got = x.desk();
        due("4: desk() of " + text, number == 0 ? Math.min(got, 0) : got, number == 0 ? 0 : -10 - number);
        due("4: fault() of " + text, x.fault(), at);
        due("4: letters left of " + text, x.told(4), 0);
        x.desk();
        due("4: fault() after an empty text", x.fault(), NONE);
    }

    private static void faultsOfWordsAndNumbers() {
        fault("d1 31 1;", 0, NONE);
        fault("  d  1  31  1  ;  c  0 , 1 ;  t 6 9 ;  p 6 99 ;  ", 0, NONE);
        fault("d001 099 001;c000,009;", 0, NONE);
        fault("x", 1, 0);
        fault("D1 2 0;", 1, 0);
        fault(" t1 2;", 1, 1);
        fault("p1 2;", 1, 0);
        fault("d", 1, 1);
        fault("d  ", 1, 3);
        fault("d1 2 0", 1, 6);
        fault("d1 2;", 1, 4);
        fault("d1 2 0;;", 1, 7);
        fault("d1 2 0;1234", 1, 7);
        fault("d1,2 0;", 1, 2);
        fault("d1 2 0 0;", 1, 7);
        fault("d-1 2 0;", 1, 1);
        fault("d1\t2 0;", 1, 2);
        fault("d1 2 0;" + (char) 233, 1, 7);
        fault("d1 2 0;" + (char) 0, 1, 7);
        fault("d1 2 0;c;", 1, 8);
        fault("d1 2 0;c1,;", 1, 10);
        fault("d1 2 0;c1,,2;", 1, 10);
        fault("d1 2 0;c1 2345;", 1, 10);
        fault("d1 2 0;c1,2", 1, 11);
        fault("d1 2 0;c1,2,3,4,5,6;", 0, NONE);
        fault("d1 2 0;c1,2,3,4,5,6 ,7;", 1, 20);
        fault("d1 2 0;t1;", 1, 9);
        fault("d1 2 0;p1;", 1, 9);
        fault("d1 2 0;p1 2 3;", 1, 12);
        fault("d100 1 0;", 2, 1);
        fault("d99 99 0;", 0, NONE);
        fault("d0 100 0;", 2, 3);
        fault("d0 0 2;", 2, 5);
        fault("d0000 1 0;", 2, 1);
        fault("d0 0 0000", 2, 5);
        fault("d12345678901234567890 1 0;", 2, 1);
        fault("d131 1;", 2, 1);
        fault("d0 0 0;c10;", 2, 8);
        fault("d0 0 0;c1, 10;", 2, 11);
        fault("d0 0 0;t10 1;", 2, 8);
        fault("d0 0 0;t1 10;", 2, 10);
        fault("d0 0 0;p10 1;", 2, 8);
        fault("d0 0 0;p1 100;", 2, 10);
        fault("d0 0 0;p1 99;", 0, NONE);
    }

    private static void faultsOfClauses() {
        fault("d0 0 0;d", 3, 7);
        fault("d0 0 0; d0 0 0;", 3, 8);
        fault("d0 0 0;c1;c1;c1;c1;", 0, NONE);
        fault("d0 0 0;c1;c1;c1;c1;t1 2;c", 3, 24);
        fault("d0 0 0;t0 1;t2 3;t4 5;t6 7;", 0, NONE);
        fault("d0 0 0;t0 1;t2 3;t4 5;t6 7; t8 9;", 3, 28);
        fault("d5 4 0;", 4, 3);
        fault("d5 4 9;", 4, 3);
        fault("d5 100 0;", 2, 3);
        fault("d4 4 0;", 0, NONE);
        fault("d0 0 0;t1 1;", 4, 10);
        fault("d0 0 0;t6 9;t9 1;", 4, 13);
        fault("d0 0 0;t6 9;t1 6;", 4, 15);
        fault("d0 0 0;t6 9;t6 6;", 4, 13);
        fault("d0 0 0;p1 5;p1", 4, 13);
        fault("d0 0 0;p1 1;p1 100;", 4, 13);
        fault("d0 0 0;p0 1;p1 1;p2 1;p3 1;p4 1;p5 1;p6 1;p7 1;p8 1;p9 1;", 0, NONE);
        CubeDays x = Check.on("d0 0 0;");
        due("4: no fault", x.fault(), NONE);
        Check.feed(x, "c");
        due("4: desk", x.desk(), -11);
        due("4: fault", x.fault(), 0);
        x.feed('d');
        due("4: it stays till the next desk()", x.fault(), 0);
    }

    private static void told() {
        CubeDays x = Check.on("d3 17 1;c1;c2,3;c4;");
        x.feed('d');
        x.feed('9');
        x.lose(1, true);
        x.lose(2, true);
        x.paint(0, 0, 5);
        x.wrong(3, true);
        x.write(1);
        x.write(2);
        int[] want = {3, 17, 1, 3, 2, 6, 1, 1, 2, 3, 1};
        for (int what = 0; what <= 10; what++) {
            due("5: told(" + what + ")", x.told(what), want[what]);
        }
        due("5: below", x.told(-1), OUTSIDE);
        due("5: above", x.told(11), OUTSIDE);
        due("5: without noughts", Check.on("d3 17 0;").told(2), 0);
    }

    private static void side() {
        CubeDays x = Check.on("d0 9 0;c7,3;c1,1,2,3,4,5;");
        due("6: figure", x.side(0, 0), 7);
        due("6: the last", x.side(0, 1), 3);
        due("6: how many", x.side(0, NONE), 2);
        due("6: how many of the second", x.side(1, NONE), 6);
        due("6: sixth", x.side(1, 5), 5);
        due("6: no such side", x.side(0, 2), OUTSIDE);
        due("6: below", x.side(0, -2), OUTSIDE);
        due("6: no such cube", x.side(2, 0), UNKNOWN);
        due("6: below, ahead of the side", x.side(-1, 9), UNKNOWN);
        due("6: far", x.side(Integer.MAX_VALUE, Integer.MIN_VALUE), UNKNOWN);
    }

    private static void turned() {
        CubeDays x = Check.on("d0 9 0;t9 6;t2 5;");
        due("7: 9", x.turned(9), 6);
        due("7: 6", x.turned(6), 9);
        due("7: 2", x.turned(2), 5);
        due("7: itself", x.turned(0), 0);
        due("7: below", x.turned(-1), UNKNOWN);
        due("7: above", x.turned(10), UNKNOWN);
    }

    private static void shows() {
        CubeDays x = Check.on("d0 9 0;t9 6;c6,6,1;c0;");
        due("8: turned too", x.shows(0), 64 + 512 + 2);
        due("8: one", x.shows(1), 1);
        x.lose(0, true);
        due("8: lost", x.shows(0), 64 + 512 + 2);
        x.paint(0, 2, 3);
        due("8: painted", x.shows(0), 64 + 512 + 8);
        due("8: no such", x.shows(2), UNKNOWN);
        due("8: below", x.shows(-1), UNKNOWN);
    }

    private static void paint() {
        CubeDays x = Check.on("d0 9 0;c1,2;p5 70;p6 0;");
        due("9: cost", x.paint(0, 1, 5), 70);
        due("9: side", x.side(0, 1), 5);
        due("9: the same again", x.paint(0, 1, 5), 140);
        due("9: for nothing", x.paint(0, 0, 6), 140);
        due("9: untold", x.paint(0, 0, 7), 141);
        x.lose(0, true);
        due("9: lost", x.paint(0, 0, 8), 142);
        due("9: no such side", x.paint(0, 2, 5), OUTSIDE);
        due("9: NONE is no side", x.paint(0, NONE, 5), OUTSIDE);
        due("9: no such cube", x.paint(1, 0, 5), UNKNOWN);
        due("9: no such figure", x.paint(0, 0, 10), UNKNOWN);
        due("9: figure ahead of the side", x.paint(0, 7, -1), UNKNOWN);
        due("9: what is refused costs nothing", x.told(6), 142);
        due("9: what is refused is not kept", x.told(9), 6);
    }

    private static void lose() {
        CubeDays x = Check.on("d0 9 0;c1;c2;");
        due("10: lost", x.lose(1, true), 0);
        due("10: set", x.told(5), 2);
        due("10: again", x.lose(1, true), 1);
        due("10: other", x.lose(0, true), 0);
        due("10: both", x.told(5), 3);
        due("10: found", x.lose(1, false), 1);
        due("10: found again", x.lose(1, false), 0);
        due("10: one", x.told(5), 1);
        due("10: each can be undone", x.told(9), 5);
        due("10: no such", x.lose(2, true), UNKNOWN);
        due("10: below", x.lose(-1, false), UNKNOWN);
        due("10: refused", x.told(9), 5);
    }

    private static void drift() {
        CubeDays x = Check.on("d0 9 0;c1,2,3;c4;p9 50;p0 20;");
        long seed = 5;
        int[][] sides = {{1, 2, 3}, {4}};
        int cost = 0;
        x.seed(5);
        x.lose(1, true);
        for (int n = 1; n <= 40; n += 3) {
            for (int morning = 0; morning < n; morning++) {
                seed = (seed * 1103515245L + 12345) % 2147483648L;
                int[] cube = sides[(int) (seed / 65536 % 2)];
                seed = (seed * 1103515245L + 12345) % 2147483648L;
                int f = (int) (seed / 65536 % cube.length);
                seed = (seed * 1103515245L + 12345) % 2147483648L;
                cube[f] = (int) (seed / 65536 % 10);
                cost += cube[f] == 9 ? 50 : cube[f] == 0 ? 20 : 1;
            }
            due("11: drift(" + n + ")", x.drift(n), cost);
        }
        for (int f = 0; f < 3; f++) {
            due("11: side", x.side(0, f), sides[0][f]);
        }
        due("11: side of the lost one", x.side(1, 0), sides[1][0]);
        due("11: below", x.drift(0), OUTSIDE);
        due("11: above", x.drift(41), OUTSIDE);
        due("11: seed", x.seed(0), seed);
        due("11: no cubes", Check.on("d0 9 0;").drift(40), NOT);
        due("11: outside ahead of not", new CubeDays().drift(41), OUTSIDE);
        driftTillFull();
    }

    /** Figure 0 costs 1, all others 90: so the cost can be brought to the limit itself. */
    private static void driftTillFull() {
        StringBuilder text = new StringBuilder("d0 9 0;c1;p0 1;");
        for (int figure = 1; figure < 10; figure++) {
            text.append("p").append(figure).append(" 90;");
        }
        CubeDays x = Check.on(text.toString());
        int cost = 0;
        for (int call = 0; call < 400 && 900000 - cost >= 90; call++) {
            cost = x.drift(Math.min(40, (900000 - cost) / 90));
        }
        for (int i = cost; i < 900000; i++) {
            cost = x.paint(0, 0, 0);
        }
        due("11: at the limit", x.told(6), 900000);
        due("11: it is not above", x.drift(1) > 900000 ? 1 : 0, 1);
        due("11: now it is", x.drift(1), FULL);
        x.undo();
        due("11: one more", x.paint(0, 0, 0), 900001);
        due("11: is above", x.drift(1), FULL);
        due("11: outside ahead of full", x.drift(0), OUTSIDE);
        due("11: painting goes on", x.paint(0, 0, 1), 900091);
    }

    private static void undo() {
        CubeDays x = Check.on("d0 9 0;c1;c2;p3 5;");
        due("12: none", x.undo(), NOT);
        x.seed(9);
        x.paint(0, 0, 3);
        x.lose(1, true);
        x.drift(7);
        int seed = x.seed(3);
        x.seed(seed);
        due("12: drift", x.undo(), 2);
        due("12: cost", x.told(6), 5);
        due("12: side", x.side(0, 0), 3);
        due("12: second side", x.side(1, 0), 2);
        due("12: still lost", x.told(5), 2);
        due("12: seed stays", x.seed(0), seed);
        due("12: lose", x.undo(), 1);
        due("12: not lost", x.told(5), 0);
        due("12: paint", x.undo(), 0);
        due("12: cost", x.told(6), 0);
        due("12: side", x.side(0, 0), 1);
        due("12: no more", x.undo(), NOT);
        for (int i = 0; i < 25; i++) {
            x.paint(0, 0, i % 10);
        }
        due("12: twenty are kept", x.told(9), 20);
        for (int i = 19; i >= 0; i--) {
            due("12: undo", x.undo(), i);
            due("12: side", x.side(0, 0), (i + 4) % 10);
        }
        due("12: the oldest are lost", x.undo(), NOT);
    }

    private static void shown() {
        CubeDays x = Check.on("d0 31 0;c1,2;c1,9;c0,3,1;t6 9;");
        due("13: 0 is one 0", x.shown(0, NONE), 1);
        due("13: its cube", x.shown(0, 0), 2);
        due("13: it has no second place", x.shown(0, 1), NONE);
        due("13: turned", x.shown(6, 0), 1);
        due("13: not", x.shown(4, NONE), 0);
        due("13: not, how", x.shown(4, 0), NONE);
        due("13: the lesser cubes", x.shown(11, 0), 0);
        due("13: second", x.shown(11, 1), 1);
        due("13: no third", x.shown(11, 2), NONE);
        due("13: below", x.shown(11, -2), NONE);
        due("13: the first place gives way", x.shown(12, 0), 1);
        due("13: to the second", x.shown(12, 1), 0);
        due("13: one cube can't be both", x.shown(22, NONE), 0);
        due("13: nor these", x.shown(30, NONE), 0);
        due("13: nor how", x.shown(30, 0), NONE);
        due("13: 31", x.shown(31, 0), 2);
        due("13: 31, second", x.shown(31, 1), 0);
        x.lose(0, true);
        due("13: lost", x.shown(12, NONE), 0);
        due("13: others", x.shown(31, 1), 1);
        due("13: above", x.shown(32, NONE), OUTSIDE);
        due("13: below", x.shown(-1, 0), OUTSIDE);
        CubeDays noughts = Check.on("d5 10 1;c0;c5,6;");
        due("13: with a nought", noughts.shown(5, NONE), 1);
        due("13: nought first", noughts.shown(5, 0), 0);
        due("13: then the figure", noughts.shown(5, 1), 1);
        due("13: below L", noughts.shown(4, NONE), OUTSIDE);
        due("13: no noughts where H has one place", Check.on("d0 9 1;c5;").shown(5, NONE), 1);
    }

    private static void days() {
        CubeDays x = Check.on("d0 12 0;c0,1,2;c1,5;");
        // 0 1 2 5 10 11 12
        due("14: days", x.days(), 7);
        x.lose(1, true);
        due("14: without one", x.days(), 3);
        x.lose(0, true);
        due("14: without all", x.days(), 0);
        due("14: one day", Check.on("d7 7 0;c7;").days(), 1);
        due("14: none", Check.on("d7 7 1;c8;").days(), 0);
    }

    private static void gap() {
        CubeDays x = Check.on("d0 3 0;c0,1,2;c3,5;");
        due("15: none", x.gap(), NONE);
        x.paint(0, 1, 2);
        due("15: 1", x.gap(), 1);
        x.lose(0, true);
        due("15: 0", x.gap(), 0);
        due("15: last", Check.on("d4 5 0;c4;").gap(), 5);
    }

    private static void must() {
        CubeDays x = Check.on("d1 31 1;t6 9;");
        due("16: twice", x.must(2), 2);
        due("16: once", x.must(3), 1);
        due("16: nought ahead", x.must(0), 1);
        due("16: never", Check.on("d1 5 0;").must(7), 0);
        due("16: turned twice", Check.on("d69 69 0;t6 9;").must(6), 2);
        due("16: not turned", Check.on("d69 69 0;").must(6), 1);
        due("16: what it is turned over", Check.on("d6 6 0;t6 9;").must(9), 1);
        due("16: without noughts", Check.on("d1 9 0;").must(0), 0);
        due("16: no noughts for one place", Check.on("d1 9 1;").must(0), 0);
        due("16: 00", Check.on("d0 10 1;").must(0), 2);
        due("16: below", x.must(-1), UNKNOWN);
        due("16: above", x.must(10), UNKNOWN);
    }

    private static void search() {
        CubeDays x = Check.on("d11 11 0;");
        due("17: both have 1", x.search(1, 0), 1);
        due("17: the pair", x.search(1, 1), 1024 * 2 + 2);
        due("17: of two sides", x.search(2, 0), 9 * 10 / 2);
        due("17: the least", x.search(2, 1), 1024 * 3 + 3);
        CubeDays one = Check.on("d5 5 0;");
        due("17: either has 5", one.search(1, 0), 10);
        due("17: the least", one.search(1, 1), 1024 + 32);
        CubeDays two = Check.on("d12 12 0;");
        due("17: 1 and 2", two.search(1, 0), 1);
        due("17: the lesser first", two.search(1, 1), 1024 * 2 + 4);
        CubeDays turned = Check.on("d69 69 0;t9 6;");
        due("17: the lesser stands for both", turned.search(1, 1), 1024 * 64 + 64);
        due("17: nine figures are left", Check.on("d0 0 0;t6 9;").search(6, 0),
                84 * 85 / 2 - 28 * 29 / 2);
        due("17: none", Check.on("d0 99 0;").search(6, 1), NONE);
        due("17: none at all", Check.on("d0 99 0;").search(6, 0), 0);
        due("17: n below", x.search(0, 0), OUTSIDE);
        due("17: n above", x.search(7, 0), OUTSIDE);
        due("17: what below", x.search(1, -1), OUTSIDE);
        due("17: what above", x.search(1, 2), OUTSIDE);
        Check.feed(x, "d22 22 0;");
        x.desk();
        due("17: another desk", x.search(1, 1), 1024 * 4 + 4);
    }

    private static void most() {
        CubeDays x = Check.on("d1 31 1;t6 9;");
        due("18: all", x.most(6), 31);
        due("18: 12 and 21", x.most(1), 2);
        due("18: one place", Check.on("d0 9 0;").most(2), 4);
        due("18: all of one place", Check.on("d0 9 0;").most(5), 10);
        due("18: one figure twice", Check.on("d33 33 0;").most(1), 1);
        due("18: no cubes of the desk count", Check.on("d33 33 0;c1;").most(6), 1);
        due("18: below", x.most(0), OUTSIDE);
        due("18: above", x.most(7), OUTSIDE);
    }

    private static void gone() {
        CubeDays x = Check.on("d0 12 0;c0,1,2;c1,5;");
        due("19: 0 and 10", x.gone(0, 0), 2);
        due("19: 11, the rest by the other", x.gone(0, 1), 1);
        due("19: 1 is shown by the first: 10 11 12", x.gone(1, 0), 3);
        due("19: 5", x.gone(1, 1), 1);
        due("19: nothing changes", x.days(), 7);
        due("19: the same twice on a cube", Check.on("d1 1 0;c1,1;").gone(0, 0), 0);
        due("19: turned", Check.on("d6 9 0;c6,1;t6 9;").gone(0, 0), 2);
        x.lose(1, true);
        due("19: lost", x.gone(1, 0), 0);
        due("19: no such side", x.gone(1, 2), OUTSIDE);
        due("19: NONE", x.gone(0, NONE), OUTSIDE);
        due("19: no such cube", x.gone(2, 9), UNKNOWN);
    }

    private static void worst() {
        CubeDays x = Check.on("d0 12 0;c0,1,2;c1,5;");
        due("20: 3 gone", x.worst(), 10);
        x.lose(1, true);
        due("20: of like ones the least", x.worst(), 0);
        x.lose(0, true);
        due("20: all lost", x.worst(), NONE);
        x.lose(1, false);
        due("20: the other", x.worst(), 10);
        due("20: nothing gone", Check.on("d8 8 0;c1;c2;").worst(), 0);
        due("20: no cubes", Check.on("d8 8 0;").worst(), NONE);
        due("20: last", Check.on("d8 9 0;c1,2,8;c3,4,9,6;t6 9;").worst(), 2);
    }

    private static void instead() {
        CubeDays x = Check.on("d0 3 0;c0,1;c2;p4 0;p2 9;");
        due("21: 3 is shown too, but 0 not; 0 itself is like it", x.instead(0, 0), 0);
        due("21: 1 like 3", x.instead(0, 1), 1);
        due("21: 3 is cheaper than 2", x.instead(1, 0), 3);
        x.lose(1, true);
        due("21: lost: the cheapest", x.instead(1, 0), 4);
        due("21: nothing changes", x.side(1, 0), 2);
        due("21: nothing costs", x.told(6), 0);
        due("21: turned, the cheaper", Check.on("d6 6 0;c1;t6 9;p6 2;").instead(0, 0), 9);
        due("21: turned, the lesser", Check.on("d9 9 0;c1;t6 9;").instead(0, 0), 6);
        due("21: no such side", x.instead(1, 1), OUTSIDE);
        due("21: no such cube", x.instead(2, 1), UNKNOWN);
        due("21: NONE", x.instead(0, NONE), OUTSIDE);
    }

    private static void board() {
        CubeDays x = Check.on("d1 31 1;t6 9;");
        due("22: 1", x.board(1, 1), 2);
        due("22: five times", x.board(5, 1), 10);
        due("22: once a day", x.board(4, 3), 4);
        due("22: the lesser of a pair", x.board(3, 6), 3);
        due("22: the other", x.board(3, 9), 0);
        due("22: 69", Check.on("d69 69 0;t9 6;").board(2, 6), 4);
        due("22: never", Check.on("d1 1 0;").board(5, 2), 0);
        due("22: k below", x.board(0, 1), OUTSIDE);
        due("22: k above", x.board(6, 1), OUTSIDE);
        due("22: k above for the other", x.board(6, 9), OUTSIDE);
        due("22: no such figure, first", x.board(6, 10), UNKNOWN);
        due("22: no such figure", x.board(1, -1), UNKNOWN);
    }

    private static void sums() {
        CubeDays x = Check.on("d0 1 0;c1,1,2;c3,6;c9;c9;t6 9;");
        due("23: 1 3 9 9", x.sums(22), 2);
        due("23: 2 3 9 9", x.sums(23), 1);
        due("23: 1 6 9 9", x.sums(25), 2);
        due("23: not turned", x.sums(28), 0);
        due("23: none", x.sums(0), 0);
        x.lose(2, true);
        due("23: without the lost", x.sums(13), 2);
        due("23: no more", x.sums(22), 0);
        for (int c = 0; c < 4; c++) {
            x.lose(c, true);
        }
        due("23: nothing sums up to 0", x.sums(0), 1);
        due("23: and to nothing else", x.sums(9), 0);
        due("23: four nines", Check.on("d0 1 0;c9;c9,9;c9;c9;").sums(36), 2);
        due("23: below", x.sums(-1), OUTSIDE);
        due("23: above", x.sums(37), OUTSIDE);
    }

    private static void price() {
        CubeDays x = Check.on("d0 1 0;p0 0;p9 99;p4 7;");
        due("24: none", x.price(0), 0);
        due("24: free", x.price(1), 0);
        due("24: 9 and 4", x.price(512 + 16), 106);
        due("24: all", x.price(1023), 7 + 106);
        due("24: bits of what there is not", x.price(1024), UNKNOWN);
        due("24: below", x.price(-1), UNKNOWN);
        due("24: least", x.price(Integer.MIN_VALUE), UNKNOWN);
    }

    private static void cheapest() {
        CubeDays x = Check.on("d6 7 0;c1,2;c6;t6 9;p7 3;");
        due("25: 7 is the gap", x.cheapest(0), 7);
        due("25: on the first side", x.cheapest(1), 0);
        x.lose(0, true);
        due("25: not on the lost one", x.cheapest(1), 10);
        x.lose(1, true);
        due("25: none does", x.cheapest(0), NONE);
        due("25: nowhere", x.cheapest(1), NONE);
        due("25: no gap", Check.on("d6 6 0;c6;").cheapest(0), NONE);
        due("25: turned, the cheaper", Check.on("d6 6 0;c1;t6 9;p6 2;").cheapest(0), 9);
        due("25: turned, the lesser", Check.on("d9 9 0;c1;t6 9;").cheapest(0), 6);
        CubeDays second = Check.on("d12 12 0;c1;c3,4;");
        due("25: the 1 must stay", second.cheapest(0), 2);
        due("25: so it is the second cube", second.cheapest(1), 10);
        due("25: two are missing", Check.on("d12 12 0;c3;c3,4;").cheapest(0), NONE);
        due("25: below", x.cheapest(-1), OUTSIDE);
        due("25: above", x.cheapest(2), OUTSIDE);
    }

    private static void wrong() {
        CubeDays x = Check.on("d3 9 0;c3;");
        due("26: first", x.wrong(3, false), 1);
        due("26: the same", x.wrong(3, true), 2);
        due("26: below", x.wrong(2, true), OUTSIDE);
        due("26: above", x.wrong(10, true), OUTSIDE);
        for (int i = 3; i <= 6; i++) {
            due("26: more", x.wrong(9, false), i);
        }
        due("26: full", x.wrong(9, false), FULL);
        due("26: outside goes ahead of full", x.wrong(10, false), OUTSIDE);
        due("26: told", x.told(7), 6);
        due("26: is not undone", x.undo(), NOT);
    }

    private static void paintedOver() {
        CubeDays x = Check.on("d0 9 0;c1,2;c3;");
        due("27: all", x.paintedOver(NONE), 27);
        due("27: first", x.paintedOver(0), 0);
        due("27: second is not what is there", x.paintedOver(1), 2);
        due("27: last", x.paintedOver(26), 109);
        due("27: beyond", x.paintedOver(27), NONE);
        due("27: below", x.paintedOver(-2), NONE);
        x.wrong(2, false);
        due("27: the 2 is gone", x.paintedOver(NONE), 9);
        due("27: on side 1", x.paintedOver(2), 13);
        x.wrong(7, true);
        due("27: by a 7", x.paintedOver(NONE), 1);
        due("27: there", x.paintedOver(0), 17);
        x.wrong(7, false);
        due("27: both can't be", x.paintedOver(NONE), 0);
        due("27: none", x.paintedOver(0), NONE);
        x.tear();
        x.wrong(6, true);
        due("27: not turned", x.paintedOver(NONE), 3);
        x.lose(0, true);
        due("27: the lost one can't make it", x.paintedOver(NONE), 1);
        x.tear();
        x.wrong(3, true);
        due("27: painted on the lost one, all stays", x.paintedOver(NONE), 18);
        due("27: no change", x.side(0, 0), 1);
    }

    private static void lookOn() {
        CubeDays x = Check.on("d0 9 0;c1,2;c3;");
        // of 27: 9 take the 1 away, 9 the 2, 9 the 3; another figure is there by 3 of them
        due("28: the first that parts best", x.lookOn(), 1);
        x.wrong(2, false);
        // of 9: 0 is shown by one of them, 1 and 3 by all
        due("28: 8 and 1", x.lookOn(), 0);
        x.wrong(7, true);
        due("28: one alone", x.lookOn(), NONE);
        x.wrong(7, false);
        due("28: none", x.lookOn(), NONE);
        CubeDays never = Check.on("d88 88 0;c1;");
        due("28: none parts them", never.lookOn(), NONE);
        due("28: no cubes", Check.on("d0 9 0;").lookOn(), NONE);
        due("28: from L on", Check.on("d5 9 0;c1;").lookOn(), 5);
    }

    private static void write() {
        CubeDays x = new CubeDays();
        due("29: below", x.write(-1), OUTSIDE);
        due("29: above", x.write(101), OUTSIDE);
        due("29: least", x.write(0), 1);
        due("29: greatest", x.write(100), 2);
        for (int i = 3; i <= 15; i++) {
            due("29: more", x.write(i), i);
        }
        due("29: full", x.write(0), FULL);
        due("29: outside goes ahead of full", x.write(101), OUTSIDE);
        due("29: told", x.told(8), 15);
    }

    private static void tear() {
        CubeDays x = Check.on("d3 9 0;c3;");
        due("30: nothing", x.tear(), 0);
        x.wrong(3, false);
        x.write(1);
        x.write(1);
        due("30: both", x.tear(), 3);
        due("30: no wrong days", x.told(7), 0);
        due("30: empty book", x.told(8), 0);
        due("30: all fits", x.paintedOver(NONE), 9);
        due("30: again", x.write(4), 1);
    }

    private static void judge() {
        CubeDays x = Check.on("d3 4 0;c3;c4;");
        due("31: empty", x.judge(), NONE);
        x.write(2);
        due("31: so", x.judge(), NONE);
        x.write(1);
        x.write(3);
        due("31: the second", x.judge(), 1);
        x.lose(0, true);
        due("31: now the first", x.judge(), 0);
        x.undo();
        due("31: undone", x.judge(), 1);
    }

    private static void seed() {
        CubeDays x = new CubeDays();
        due("32: at first", x.seed(2147483647), 0);
        due("32: then", x.seed(0), 2147483647);
        due("32: below", x.seed(-1), OUTSIDE);
        due("32: least", x.seed(Integer.MIN_VALUE), OUTSIDE);
        due("32: refused", x.seed(4), 0);
        due("32: not undone", x.undo(), NOT);
        CubeDays y = Check.on("d0 1 0;c1;");
        y.seed(2147483647);
        y.drift(1);
        long s = 2147483647L;
        for (int i = 0; i < 3; i++) {
            s = (s * 1103515245L + 12345) % 2147483648L;
        }
        due("32: from the greatest", y.seed(0), s);
    }

    private static void keep() {
        CubeDays x = Check.on("d0 1 0;c1;c2;");
        due("33: below", x.keep(-1), UNKNOWN);
        due("33: above", x.keep(2), UNKNOWN);
        x.paint(0, 0, 5);
        due("33: refused changes nothing", x.keep(2) == UNKNOWN ? x.told(9) : 0, 1);
        due("33: kept", x.keep(1), 1);
        due("33: nothing can be undone", x.undo(), NOT);
        x.paint(0, 0, 6);
        due("33: kept anew", x.keep(1), 1);
        x.paint(0, 0, 7);
        x.goBack(1);
        due("33: the latest", x.side(0, 0), 6);
        due("33: on a new object", new CubeDays().keep(0), 1);
    }

    private static void goBack() {
        CubeDays x = Check.on("d0 1 0;c1;c2;");
        due("34: below", x.goBack(-1), UNKNOWN);
        due("34: above", x.goBack(2), UNKNOWN);
        due("34: not kept", x.goBack(0), NOT);
        x.seed(8);
        x.paint(0, 0, 5);
        x.lose(1, true);
        x.keep(0);
        x.seed(9);
        x.lose(1, false);
        x.paint(0, 0, 6);
        x.wrong(0, true);
        due("34: the other is not kept", x.goBack(1), NOT);
        due("34: refused changes nothing", x.told(9), 2);
        due("34: back", x.goBack(0), 1);
        due("34: side", x.side(0, 0), 5);
        due("34: lost", x.told(5), 2);
        due("34: cost", x.told(6), 1);
        due("34: seed", x.seed(1), 8);
        due("34: wrong days stay", x.told(7), 1);
        due("34: nothing can be undone", x.undo(), NOT);
        x.paint(0, 0, 9);
        due("34: once more", x.goBack(0), 1);
        due("34: the image stays as it was", x.side(0, 0), 5);
    }
}
