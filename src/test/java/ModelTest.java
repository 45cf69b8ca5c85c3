import java.util.Random;

/** Long runs by chance, the same calls on the class and on the model; told by the run's number. */
public final class ModelTest {
    private static final int RUNS = 700;
    private static final int CALLS = 512;
    private static final int[] EDGES = {-2, -1, 0, 1, 2, 3, 4, 5, 6, 7, 9, 10, 11, 36, 37, 40, 41, 99, 100, 101,
        1023, 1024, Integer.MAX_VALUE, Integer.MIN_VALUE};

    private final int run;
    private final Random chance;
    private final CubeDays x = new CubeDays();
    private final Model m = new Model();
    private int calls = 0;
    private int searches = 0;

    private ModelTest(int run) {
        this.run = run;
        this.chance = new Random(run);
    }

    public static void main(String[] args) {
        for (int run = 0; run < RUNS; run++) {
            new ModelTest(run).go();
        }
        Check.finish("ModelTest");
    }

    private void go() {
        if (chance.nextInt(8) != 0) {
            feedText();
        }
        while (calls < CALLS) {
            int kind = chance.nextInt(60);
            if (kind == 0) {
                feedText();
            } else if (kind < 34) {
                call(kind);
            } else {
                callOften(kind);
            }
        }
    }

    private void due(String call, int got, int want) {
        calls++;
        Check.due("run " + run + " call " + calls + ": " + call, got, want);
    }

    /** Mostly within its bounds, at times at an edge of anything. */
    private int number(int below) {
        return chance.nextInt(12) == 0 ? EDGES[chance.nextInt(EDGES.length)] : chance.nextInt(below);
    }

    private int orNone(int below) {
        return chance.nextInt(4) == 0 ? CubeDays.NONE : number(below);
    }

    private int day() {
        int low = m.told(0);
        int high = m.told(1);
        return chance.nextInt(12) == 0 ? number(100) : low + chance.nextInt(high - low + 1);
    }

    private String blank() {
        return chance.nextInt(12) == 0 ? " " : "";
    }

    private String told(int below) {
        int n = chance.nextInt(60) == 0 ? chance.nextInt(1200) : chance.nextInt(below);
        return blank() + (chance.nextInt(40) == 0 ? "0" : "") + n;
    }

    private String text() {
        StringBuilder t = new StringBuilder();
        int low = chance.nextInt(3) == 0 ? chance.nextInt(100) : chance.nextInt(3);
        int high = chance.nextInt(40) == 0 ? chance.nextInt(100) : low + chance.nextInt(100 - low);
        t.append(blank()).append("d").append(low).append(' ').append(high).append(' ').append(told(2)).append(";");
        int clauses = chance.nextInt(12);
        for (int i = 0; i < clauses; i++) {
            t.append(blank());
            int kind = chance.nextInt(40);
            if (kind < 20) {
                t.append("c").append(told(10));
                int sides = chance.nextInt(25) == 0 ? 6 : chance.nextInt(6);
                for (int f = 0; f < sides; f++) t.append(",").append(told(10));
            } else if (kind < 28) {
                t.append("t").append(told(10)).append(" ").append(told(10));
            } else if (kind < 39) {
                t.append("p").append(told(10)).append(" ").append(told(chance.nextInt(2) == 0 ? 3 : 100));
            } else {
                t.append("d0 1 0");
            }
            t.append(blank()).append(";");
        }
        return t.toString();
    }

    private String spoilt(String t) {
        StringBuilder s = new StringBuilder(t);
        int at = chance.nextInt(s.length());
        String letters = "dctp;, 0123456789x#$" + (char) 233 + (char) 0;
        char letter = letters.charAt(chance.nextInt(letters.length()));
        switch (chance.nextInt(4)) {
            case 0: s.setCharAt(at, letter); break;
            case 1: s.insert(at, letter); break;
            case 2: s.deleteCharAt(at); break;
            default: s.setLength(at); break;
        }
        return s.toString();
    }

    /** Most texts are good ones: tried on a model of their own first. */
    private void feedText() {
        String t = text();
        for (int i = 0; i < 30 && !isGood(t); i++) {
            t = text();
        }
        if (chance.nextInt(4) == 0) {
            t = spoilt(t);
        }
        if (calls + t.length() + 2 > CALLS) {
            return;
        }
        for (int i = 0; i < t.length(); i++) {
            due("feed(" + (int) t.charAt(i) + ")", x.feed(t.charAt(i)), m.feed(t.charAt(i)));
        }
        due("desk() of '" + t + "'", x.desk(), m.desk());
        due("fault() of '" + t + "'", x.fault(), m.fault());
    }

    private static boolean isGood(String t) {
        Model alone = new Model();
        for (int i = 0; i < t.length(); i++) {
            alone.feed(t.charAt(i));
        }
        return alone.desk() >= 0;
    }

    private void call(int kind) {
        int c = number(4);
        int f = number(6);
        int figure = number(10);
        int n = number(7);
        int one = number(2);
        int set = number(1024);
        int sum = number(37);
        int v = chance.nextInt();
        switch (kind) {
            case 1: due("feed(" + set + ")", x.feed(set), m.feed(set)); break;
            case 2: if (chance.nextInt(8) == 0) due("desk()", x.desk(), m.desk()); break;
            case 3: due("fault()", x.fault(), m.fault()); break;
            case 4: due("turned(" + figure + ")", x.turned(figure), m.turned(figure)); break;
            case 5: due("shows(" + c + ")", x.shows(c), m.shows(c)); break;
            case 6: due("must(" + figure + ")", x.must(figure), m.must(figure)); break;
            case 7: if (searches++ < 2) due("search(" + n + "," + one + ")", x.search(n, one), m.search(n, one)); break;
            case 8: if (searches++ < 2) due("most(" + n + ")", x.most(n), m.most(n)); break;
            case 9: due("gone(" + c + "," + f + ")", x.gone(c, f), m.gone(c, f)); break;
            case 10: due("worst()", x.worst(), m.worst()); break;
            case 11: due("instead(" + c + "," + f + ")", x.instead(c, f), m.instead(c, f)); break;
            case 12: due("board(" + n + "," + figure + ")", x.board(n, figure), m.board(n, figure)); break;
            case 13: due("sums(" + sum + ")", x.sums(sum), m.sums(sum)); break;
            case 14: due("price(" + set + ")", x.price(set), m.price(set)); break;
            case 15: due("cheapest(" + one + ")", x.cheapest(one), m.cheapest(one)); break;
            case 16: if (chance.nextInt(9) == 0) due("lookOn()", x.lookOn(), m.lookOn()); break;
            case 17: due("write(" + set + ")", x.write(set), m.write(set)); break;
            case 18: due("tear()", x.tear(), m.tear()); break;
            case 19: due("seed(" + v + ")", x.seed(v), m.seed(v)); break;
            case 20: due("keep(" + one + ")", x.keep(one), m.keep(one)); break;
            case 21: due("goBack(" + one + ")", x.goBack(one), m.goBack(one)); break;
            case 22: due("drift(" + sum + ")", x.drift(sum), m.drift(sum)); break;
            default: callMore(kind);
        }
    }

    private void callMore(int kind) {
        int c = number(4);
        int day = day();
        boolean is = chance.nextBoolean();
        int count = chance.nextBoolean() ? m.days() : number(101);
        switch (kind) {
            case 23: due("wrong(" + day + "," + is + ")", x.wrong(day, is), m.wrong(day, is)); break;
            case 24: due("write(" + count + ")", x.write(count), m.write(count)); break;
            case 25: due("judge()", x.judge(), m.judge()); break;
            case 26: due("lose(" + c + "," + is + ")", x.lose(c, is), m.lose(c, is)); break;
            case 27: due("days()", x.days(), m.days()); break;
            case 28: due("gap()", x.gap(), m.gap()); break;
            default: due("undo()", x.undo(), m.undo()); break;
        }
    }

    private void callOften(int kind) {
        int c = number(4);
        int f = orNone(6);
        int figure = number(10);
        int what = number(11);
        int day = day();
        int i = orNone(3);
        int far = chance.nextInt(2) == 0 ? CubeDays.NONE : number(200);
        if (kind < 40) {
            due("told(" + what + ")", x.told(what), m.told(what));
        } else if (kind < 46) {
            due("side(" + c + "," + f + ")", x.side(c, f), m.side(c, f));
        } else if (kind < 51) {
            due("paint(" + c + "," + f + "," + figure + ")", x.paint(c, f, figure), m.paint(c, f, figure));
        } else if (kind < 58) {
            due("shown(" + day + "," + i + ")", x.shown(day, i), m.shown(day, i));
        } else {
            due("paintedOver(" + far + ")", x.paintedOver(far), m.paintedOver(far));
        }
    }
}
