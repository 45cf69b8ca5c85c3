import java.util.ArrayList;
import java.util.List;
import java.util.function.Supplier;
import java.util.function.ToIntFunction;

/**
 * "What is refused changes nothing", "TRIED from now; nothing changes by it": each such call is made on one of two like
 * objects, which must then look alike. All refusals are tried in all worlds: new, busy, full of each thing.
 */
public final class RefusalTest {
    private static final int NONE = CubeDays.NONE, UNKNOWN = CubeDays.UNKNOWN, OUTSIDE = CubeDays.OUTSIDE;
    private static final int NOT = CubeDays.NOT, FULL = CubeDays.FULL;
    private static final int LEAST = Integer.MIN_VALUE, GREATEST = Integer.MAX_VALUE;
    private static final int LETTERS = 220;

    private record Call(String name, int want, ToIntFunction<CubeDays> made) {
    }

    private record World(String name, Supplier<CubeDays> maker) {
    }

    public static void main(String[] args) {
        List<World> worlds = List.of(new World("new", CubeDays::new), new World("emptied", RefusalTest::emptied),
                new World("no cubes", RefusalTest::noCubes), new World("busy", RefusalTest::busy),
                new World("full text", RefusalTest::fullText), new World("full notes", RefusalTest::fullNotes),
                new World("full past", RefusalTest::fullPast), new World("dear", RefusalTest::dear));
        theLookSeesEachChange();
        for (World world : worlds) {
            for (Call call : refusedAnywhere(world.maker.get())) {
                refused(world, call);
            }
            for (Call call : refusedThere(world.name)) {
                refused(world, call);
            }
            for (Call call : tried(world.maker.get())) {
                changesNothing(world, call);
            }
        }
        Check.finish("RefusalTest");
    }

    private static void refused(World world, Call call) {
        CubeDays x = world.maker.get();
        Check.due(world.name + ": " + call.name, call.made.applyAsInt(x), call.want);
        Check.due(world.name + ": refused, it changes nothing: " + call.name, looksLike(x, world) ? 1 : 0, 1);
    }

    private static void changesNothing(World world, Call call) {
        CubeDays x = world.maker.get();
        int first = call.made.applyAsInt(x);
        Check.due(world.name + ": the same again: " + call.name, call.made.applyAsInt(x), first);
        Check.due(world.name + ": it is no refusal: " + call.name, first >= NONE ? 1 : 0, 1);
        Check.due(world.name + ": tried, it changes nothing: " + call.name, looksLike(x, world) ? 1 : 0, 1);
    }

    private static boolean looksLike(CubeDays x, World world) {
        return Look.whole(x).equals(Look.whole(world.maker.get()));
    }

    // ---- worlds; with the look each stays within 512 calls

    private static CubeDays emptied() {
        CubeDays x = busy();
        x.desk();
        x.desk();
        return x;
    }

    private static CubeDays noCubes() {
        CubeDays x = Check.on("d3 9 0;t6 9;p3 4;");
        x.seed(4);
        x.wrong(3, false);
        x.write(0);
        x.write(1);
        x.keep(0);
        return x;
    }

    private static CubeDays busy() {
        CubeDays x = Check.on("d1 12 1;c0,1,2;c1,0,5;t6 9;p5 7;");
        x.seed(77);
        x.paint(0, 1, 6);
        x.lose(1, true);
        x.keep(0);
        x.seed(78);
        x.paint(1, 2, 3);
        x.lose(1, false);
        x.lose(0, true);
        x.lose(0, false);
        x.drift(2);
        x.wrong(11, false);
        x.wrong(12, false);
        x.write(5);
        x.write(6);
        Check.feed(x, "d2 3 0;c4,");
        return x;
    }

    private static CubeDays fullText() {
        CubeDays x = Check.on("d0 9 0;c1;");
        x.paint(0, 0, 2);
        Check.feed(x, "d1 3 1;c1,2;");
        for (int i = x.told(4); i < LETTERS; i++) {
            x.feed(' ');
        }
        return x;
    }

    private static CubeDays fullNotes() {
        CubeDays x = Check.on("d1 12 0;c0,1,2;c1,5;");
        x.lose(1, true);
        for (int i = 0; i < 6; i++) {
            x.wrong(12, false);
        }
        for (int i = 0; i < 15; i++) {
            x.write(i == 14 ? 1 : 2);
        }
        return x;
    }

    private static CubeDays fullPast() {
        CubeDays x = Check.on("d0 12 0;c0,1;c1,5;");
        x.keep(1);
        for (int i = 0; i < 23; i++) {
            x.paint(i % 2, i / 2 % 2, i % 10);
        }
        return x;
    }

    /** Any figure costs 99: so 228 calls of 40 mornings cost more than 900000. */
    private static CubeDays dear() {
        StringBuilder text = new StringBuilder("d0 9 0;c1;");
        for (int figure = 0; figure < 10; figure++) {
            text.append('p').append(figure).append(" 99;");
        }
        CubeDays x = Check.on(text.toString());
        for (int i = 0; i < 228; i++) {
            x.drift(40);
        }
        Check.due("dear: the cost", x.told(6), 228 * 40 * 99);
        return x;
    }

    // ---- calls

    private static void add(List<Call> to, int want, String name, ToIntFunction<CubeDays> made) {
        to.add(new Call(name, want, made));
    }

    private static List<Call> refusedAnywhere(CubeDays like) {
        List<Call> all = new ArrayList<>();
        int cubes = like.told(3);
        for (int c : new int[] {LEAST, -2, -1, cubes, cubes + 1, 4, 31, 32, GREATEST}) {
            unknownCube(all, c);
        }
        for (int c = 0; c < cubes; c++) {
            int sides = like.side(c, NONE);
            for (int f : new int[] {LEAST, -2, -1, sides, sides + 1, 6, GREATEST}) {
                noSuchSide(all, c, f);
            }
            for (int figure : new int[] {LEAST, -1, 10, GREATEST}) {
                int cube = c;
                add(all, UNKNOWN, "paint " + c + " 0 " + figure, x -> x.paint(cube, 0, figure));
                add(all, UNKNOWN, "paint " + c + " 6 " + figure, x -> x.paint(cube, 6, figure));
            }
        }
        for (int figure : new int[] {LEAST, -1, 10, 32, GREATEST}) {
            add(all, UNKNOWN, "turned " + figure, x -> x.turned(figure));
            add(all, UNKNOWN, "must " + figure, x -> x.must(figure));
            add(all, UNKNOWN, "board 1 " + figure, x -> x.board(1, figure));
            add(all, UNKNOWN, "board 0 " + figure, x -> x.board(0, figure));
            add(all, UNKNOWN, "board 6 " + figure, x -> x.board(6, figure));
        }
        for (int set : new int[] {LEAST, LEAST + 1023, -1024, -1, 1024, 1025, 2047, 2048, GREATEST}) {
            add(all, UNKNOWN, "price " + set, x -> x.price(set));
        }
        for (int i : new int[] {LEAST, -1, 2, GREATEST}) {
            add(all, UNKNOWN, "keep " + i, x -> x.keep(i));
            add(all, UNKNOWN, "goBack " + i, x -> x.goBack(i));
        }
        outside(all, like);
        return all;
    }

    private static void unknownCube(List<Call> all, int c) {
        for (int f : new int[] {LEAST, NONE, 0, 6, GREATEST}) {
            add(all, UNKNOWN, "side " + c + " " + f, x -> x.side(c, f));
            add(all, UNKNOWN, "paint " + c + " " + f, x -> x.paint(c, f, 1));
            add(all, UNKNOWN, "gone " + c + " " + f, x -> x.gone(c, f));
            add(all, UNKNOWN, "instead " + c + " " + f, x -> x.instead(c, f));
        }
        add(all, UNKNOWN, "shows " + c, x -> x.shows(c));
        add(all, UNKNOWN, "lose " + c, x -> x.lose(c, true));
        add(all, UNKNOWN, "find " + c, x -> x.lose(c, false));
    }

    private static void noSuchSide(List<Call> all, int c, int f) {
        if (f != NONE) {
            add(all, OUTSIDE, "side " + c + " " + f, x -> x.side(c, f));
        }
        add(all, OUTSIDE, "paint " + c + " " + f, x -> x.paint(c, f, 1));
        add(all, OUTSIDE, "gone " + c + " " + f, x -> x.gone(c, f));
        add(all, OUTSIDE, "instead " + c + " " + f, x -> x.instead(c, f));
    }

    private static void outside(List<Call> all, CubeDays like) {
        for (int v : new int[] {LEAST, -1, 256, GREATEST}) {
            add(all, OUTSIDE, "feed " + v, x -> x.feed(v));
        }
        for (int v : new int[] {LEAST, -1, 11, GREATEST}) {
            add(all, OUTSIDE, "told " + v, x -> x.told(v));
        }
        for (int v : new int[] {LEAST, -1, 0, 41, GREATEST}) {
            add(all, OUTSIDE, "drift " + v, x -> x.drift(v));
        }
        boolean hasDays = like.told(10) == 1;
        for (int v : new int[] {LEAST, -1, hasDays ? like.told(0) - 1 : 0, like.told(1) + 1, 100, GREATEST}) {
            add(all, OUTSIDE, "shown " + v, x -> x.shown(v, NONE));
            add(all, OUTSIDE, "shown 0 " + v, x -> x.shown(v, 0));
            add(all, OUTSIDE, "shown 9 " + v, x -> x.shown(v, 9));
            add(all, OUTSIDE, "wrong " + v, x -> x.wrong(v, true));
            add(all, OUTSIDE, "wrong, not " + v, x -> x.wrong(v, false));
        }
        for (int n : new int[] {LEAST, -1, 0, 7, GREATEST}) {
            add(all, OUTSIDE, "search 0 " + n, x -> x.search(n, 0));
            add(all, OUTSIDE, "search 1 " + n, x -> x.search(n, 1));
            add(all, OUTSIDE, "most " + n, x -> x.most(n));
        }
        for (int what : new int[] {LEAST, -1, 2, GREATEST}) {
            add(all, OUTSIDE, "search what " + what, x -> x.search(6, what));
            add(all, OUTSIDE, "cheapest " + what, x -> x.cheapest(what));
        }
        for (int k : new int[] {LEAST, -1, 0, 6, GREATEST}) {
            add(all, OUTSIDE, "board " + k + " 0", x -> x.board(k, 0));
            add(all, OUTSIDE, "board " + k + " 9", x -> x.board(k, 9));
        }
        for (int s : new int[] {LEAST, -1, 37, GREATEST}) {
            add(all, OUTSIDE, "sums " + s, x -> x.sums(s));
        }
        for (int v : new int[] {LEAST, -1, 101, GREATEST}) {
            add(all, OUTSIDE, "write " + v, x -> x.write(v));
        }
        for (int v : new int[] {LEAST, -1000000001, -1}) {
            add(all, OUTSIDE, "seed " + v, x -> x.seed(v));
        }
    }

    private static List<Call> refusedThere(String world) {
        List<Call> all = new ArrayList<>();
        switch (world) {
            case "new", "emptied" -> {
                notWithoutCubes(all);
                add(all, NOT, "goBack 0", x -> x.goBack(0));
                add(all, NOT, "goBack 1", x -> x.goBack(1));
            }
            case "no cubes" -> {
                notWithoutCubes(all);
                add(all, NOT, "goBack 1", x -> x.goBack(1));
            }
            case "busy" -> add(all, NOT, "goBack 1", x -> x.goBack(1));
            case "full text" -> {
                add(all, FULL, "feed 0", x -> x.feed(0));
                add(all, FULL, "feed a blank", x -> x.feed(' '));
                add(all, FULL, "feed 255", x -> x.feed(255));
            }
            case "full notes" -> {
                add(all, FULL, "wrong L", x -> x.wrong(1, true));
                add(all, FULL, "wrong H", x -> x.wrong(12, false));
                add(all, FULL, "write 0", x -> x.write(0));
                add(all, FULL, "write 100", x -> x.write(100));
            }
            case "full past" -> add(all, NOT, "goBack 0", x -> x.goBack(0));
            default -> {
                add(all, FULL, "drift 1", x -> x.drift(1));
                add(all, FULL, "drift 40", x -> x.drift(40));
            }
        }
        return all;
    }

    private static void notWithoutCubes(List<Call> all) {
        add(all, NOT, "drift 1", x -> x.drift(1));
        add(all, NOT, "drift 40", x -> x.drift(40));
        add(all, NOT, "undo", x -> x.undo());
    }

    private static List<Call> tried(CubeDays like) {
        List<Call> all = new ArrayList<>();
        add(all, 0, "fault", x -> x.fault());
        add(all, 0, "told 9", x -> x.told(9));
        add(all, 0, "turned 6", x -> x.turned(6));
        add(all, 0, "days", x -> x.days());
        add(all, 0, "gap", x -> x.gap());
        add(all, 0, "must 1", x -> x.must(1));
        add(all, 0, "search 1 0", x -> x.search(1, 0));
        add(all, 0, "search 6 1", x -> x.search(6, 1));
        add(all, 0, "most 6", x -> x.most(6));
        add(all, 0, "worst", x -> x.worst());
        add(all, 0, "board 5 1", x -> x.board(5, 1));
        add(all, 0, "sums 3", x -> x.sums(3));
        add(all, 0, "price 1023", x -> x.price(1023));
        add(all, 0, "cheapest 0", x -> x.cheapest(0));
        add(all, 0, "cheapest 1", x -> x.cheapest(1));
        add(all, 0, "paintedOver", x -> x.paintedOver(NONE));
        add(all, 0, "paintedOver 0", x -> x.paintedOver(0));
        add(all, 0, "paintedOver far", x -> x.paintedOver(GREATEST));
        add(all, 0, "lookOn", x -> x.lookOn());
        add(all, 0, "judge", x -> x.judge());
        for (int c = 0; c < like.told(3); c++) {
            int cube = c;
            add(all, 0, "shows", x -> x.shows(cube));
            add(all, 0, "side", x -> x.side(cube, NONE));
            add(all, 0, "gone", x -> x.gone(cube, 0));
            add(all, 0, "instead", x -> x.instead(cube, 0));
        }
        for (int day = like.told(0); day <= like.told(1) && like.told(10) == 1; day++) {
            int one = day;
            add(all, 0, "shown", x -> x.shown(one, NONE));
            add(all, 0, "shown 1", x -> x.shown(one, 1));
        }
        return all;
    }

    /** Else the tests above would tell nothing. */
    private static void theLookSeesEachChange() {
        World busy = new World("busy", RefusalTest::busy);
        List<Call> all = new ArrayList<>();
        add(all, 11, "feed", x -> x.feed('1'));
        add(all, -11, "desk", x -> x.desk());
        add(all, busy().told(6), "paint for nothing new", x -> x.paint(0, 0, x.side(0, 0)) - 1);
        add(all, 0, "lose", x -> x.lose(0, true));
        add(all, 0, "find what is there", x -> x.lose(0, false));
        add(all, 4, "undo", x -> x.undo());
        add(all, 3, "wrong", x -> x.wrong(1, true));
        add(all, 3, "write", x -> x.write(5));
        add(all, 4, "tear", x -> x.tear());
        add(all, 1, "keep 0", x -> x.keep(0));
        add(all, 1, "keep 1", x -> x.keep(1));
        add(all, 1, "goBack", x -> x.goBack(0));
        add(all, 1, "drift", x -> x.drift(1) > 0 ? 1 : 0);
        add(all, 1, "seed", x -> x.seed(1) > 0 ? 1 : 0);
        for (Call call : all) {
            CubeDays x = busy();
            Check.due("busy: " + call.name, call.made.applyAsInt(x), call.want);
            Check.due("busy: it is seen: " + call.name, looksLike(x, busy) ? 1 : 0, 0);
        }
    }
}
