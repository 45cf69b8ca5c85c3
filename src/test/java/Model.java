import java.util.ArrayDeque;
import java.util.ArrayList;
import java.util.Arrays;
import java.util.List;

/** The document again, as plainly as can be and without any haste: texts for days, all tried one by one. */
final class Model {
    static final int NONE = -1, UNKNOWN = -1000000001, OUTSIDE = -1000000002, NOT = -1000000003, FULL = -1000000004;

    private record Kept(List<List<Integer>> cubes, List<Boolean> lost, int cost, long seed) {
    }

    private record Token(char kind, int value, int figures, int at) {
    }

    private record WrongDay(int day, boolean shown) {
    }

    private static final class Faulty extends RuntimeException {
        private static final long serialVersionUID = 1;
        final int number;
        final int at;

        Faulty(int number, int at) {
            this.number = number;
            this.at = at;
        }
    }

    private static final class Told {
        int low = 0, high = 0, noughts = 0;
        boolean days = false;
        List<List<Integer>> cubes = new ArrayList<>();
        int[] turned = {0, 1, 2, 3, 4, 5, 6, 7, 8, 9};
        Integer[] price = new Integer[10];
        int pairs = 0;
    }

    private String text = "";
    private int faultAt = NONE;
    private Told told = new Told();
    private List<List<Integer>> cubes = new ArrayList<>();
    private List<Boolean> lost = new ArrayList<>();
    private int cost = 0;
    private long seed = 0;
    private final ArrayDeque<Kept> past = new ArrayDeque<>();
    private final Kept[] images = new Kept[2];
    private final List<WrongDay> wrongDays = new ArrayList<>();
    private final List<Integer> book = new ArrayList<>();

    // ---- the desk

    int feed(int letter) {
        if (letter < 0 || letter > 255) return OUTSIDE;
        if (text.length() == 220) return FULL;
        text += (char) letter;
        return text.length();
    }

    int desk() {
        String read = text;
        text = "";
        Told next;
        try {
            next = parse(tokens(read));
            faultAt = NONE;
        } catch (Faulty f) {
            faultAt = f.at;
            return -10 - f.number;
        }
        told = next;
        cubes = copy(told.cubes);
        lost = new ArrayList<>();
        for (int c = 0; c < cubes.size(); c++) lost.add(false);
        cost = 0;
        past.clear();
        Arrays.fill(images, null);
        wrongDays.clear();
        book.clear();
        return cubes.size();
    }

    private static List<Token> tokens(String s) {
        List<Token> all = new ArrayList<>();
        for (int i = 0; i < s.length(); i++) {
            char x = s.charAt(i);
            if (x == ' ') continue;
            if (x < '0' || x > '9') {
                all.add(new Token(x, 0, 0, i));
                continue;
            }
            int end = i;
            while (end < s.length() && s.charAt(end) >= '0' && s.charAt(end) <= '9') end++;
            int value = end - i > 3 ? 9999 : Integer.parseInt(s.substring(i, end));
            all.add(new Token('#', value, end - i, i));
            i = end - 1;
        }
        all.add(new Token('$', 0, 0, s.length()));
        return all;
    }

    private static Token number(List<Token> all, int top) {
        Token t = all.remove(0);
        if (t.kind != '#' || t.figures == 0) throw new Faulty(1, t.at);
        if (t.figures > 3 || t.value > top) throw new Faulty(2, t.at);
        return t;
    }

    private static void end(List<Token> all) {
        Token t = all.remove(0);
        if (t.kind != ';') throw new Faulty(1, t.at);
    }

    private static boolean isEnd(Token t, int length) {
        return t.kind == '$' && t.figures == 0 && t.at == length;
    }

    private static Told parse(List<Token> all) {
        Told d = new Told();
        int length = all.get(all.size() - 1).at;
        while (!isEnd(all.get(0), length)) {
            Token word = all.remove(0);
            if (word.figures > 0 || "dctp".indexOf(word.kind) < 0) throw new Faulty(1, word.at);
            if (!d.days && word.kind != 'd') throw new Faulty(1, word.at);
            if (word.kind == 'd') days(d, word, all);
            if (word.kind == 'c') cube(d, word, all);
            if (word.kind == 't') pair(d, word, all);
            if (word.kind == 'p') cost(d, all);
        }
        return d;
    }

    private static void days(Told d, Token word, List<Token> all) {
        if (d.days) throw new Faulty(3, word.at);
        d.days = true;
        d.low = number(all, 99).value;
        Token high = number(all, 99);
        if (high.value < d.low) throw new Faulty(4, high.at);
        d.high = high.value;
        d.noughts = number(all, 1).value;
        end(all);
    }

    private static void cube(Told d, Token word, List<Token> all) {
        if (d.cubes.size() == 4) throw new Faulty(3, word.at);
        List<Integer> sides = new ArrayList<>();
        sides.add(number(all, 9).value);
        while (all.get(0).kind == ',') {
            Token comma = all.remove(0);
            if (sides.size() == 6) throw new Faulty(1, comma.at);
            sides.add(number(all, 9).value);
        }
        end(all);
        d.cubes.add(sides);
    }

    private static void pair(Told d, Token word, List<Token> all) {
        if (d.pairs == 4) throw new Faulty(3, word.at);
        Token a = number(all, 9);
        if (d.turned[a.value] != a.value) throw new Faulty(4, a.at);
        Token b = number(all, 9);
        if (d.turned[b.value] != b.value || a.value == b.value) throw new Faulty(4, b.at);
        end(all);
        d.turned[a.value] = b.value;
        d.turned[b.value] = a.value;
        d.pairs++;
    }

    private static void cost(Told d, List<Token> all) {
        Token a = number(all, 9);
        if (d.price[a.value] != null) throw new Faulty(4, a.at);
        d.price[a.value] = number(all, 99).value;
        end(all);
    }

    int fault() {
        return faultAt;
    }

    int told(int what) {
        int set = 0;
        for (int c = 0; c < lost.size(); c++) if (lost.get(c)) set += 1 << c;
        int[] all = {told.low, told.high, told.noughts, cubes.size(), text.length(), set, cost,
            wrongDays.size(), book.size(), past.size(), told.days ? 1 : 0};
        return what < 0 || what >= all.length ? OUTSIDE : all[what];
    }

    private boolean isCube(int c) {
        return c >= 0 && c < cubes.size();
    }

    private boolean isSide(int c, int f) {
        return f >= 0 && f < cubes.get(c).size();
    }

    private static boolean isFigure(int x) {
        return x >= 0 && x <= 9;
    }

    int side(int c, int f) {
        if (!isCube(c)) return UNKNOWN;
        if (f == NONE) return cubes.get(c).size();
        return isSide(c, f) ? cubes.get(c).get(f) : OUTSIDE;
    }

    int turned(int figure) {
        return isFigure(figure) ? told.turned[figure] : UNKNOWN;
    }

    int shows(int c) {
        if (!isCube(c)) return UNKNOWN;
        int set = 0;
        for (int figure = 0; figure < 10; figure++) if (showsFigure(cubes.get(c), figure)) set += 1 << figure;
        return set;
    }

    private boolean showsFigure(List<Integer> sides, int figure) {
        return sides.contains(figure) || sides.contains(told.turned[figure]);
    }

    // ---- what is done

    private static List<List<Integer>> copy(List<List<Integer>> of) {
        List<List<Integer>> to = new ArrayList<>();
        for (List<Integer> sides : of) to.add(new ArrayList<>(sides));
        return to;
    }

    private Kept kept() {
        return new Kept(copy(cubes), new ArrayList<>(lost), cost, seed);
    }

    private void remember() {
        past.addLast(kept());
        if (past.size() > 20) past.removeFirst();
    }

    private int cost(int figure) {
        return told.price[figure] == null ? 1 : told.price[figure];
    }

    int paint(int c, int f, int figure) {
        if (!isCube(c) || !isFigure(figure)) return UNKNOWN;
        if (!isSide(c, f)) return OUTSIDE;
        remember();
        cubes.get(c).set(f, figure);
        cost += cost(figure);
        return cost;
    }

    int lose(int c, boolean is) {
        if (!isCube(c)) return UNKNOWN;
        remember();
        return lost.set(c, is) ? 1 : 0;
    }

    private int draw(int n) {
        seed = (seed * 1103515245L + 12345L) % (1L << 31);
        return (int) (seed / 65536 % n);
    }

    int drift(int n) {
        if (n < 1 || n > 40) return OUTSIDE;
        if (cubes.isEmpty()) return NOT;
        if (cost > 900000) return FULL;
        remember();
        for (int i = 0; i < n; i++) {
            List<Integer> cube = cubes.get(draw(cubes.size()));
            int f = draw(cube.size());
            int figure = draw(10);
            cube.set(f, figure);
            cost += cost(figure);
        }
        return cost;
    }

    int undo() {
        if (past.isEmpty()) return NOT;
        Kept k = past.removeLast();
        cubes = k.cubes;
        lost = k.lost;
        cost = k.cost;
        return past.size();
    }

    // ---- tried

    private String asText(int day) {
        String s = "" + day;
        int places = ("" + told.high).length();
        while (told.noughts == 1 && s.length() < places) s = "0" + s;
        return s;
    }

    private boolean isDay(int day) {
        return told.days && day >= told.low && day <= told.high;
    }

    private List<Integer> allDays() {
        List<Integer> all = new ArrayList<>();
        for (int day = 0; day < 100; day++) if (isDay(day)) all.add(day);
        return all;
    }

    private List<List<Integer>> present(List<List<Integer>> from) {
        List<List<Integer>> all = copy(from);
        for (int c = 0; c < all.size(); c++) if (lost.get(c)) all.get(c).clear();
        return all;
    }

    /** The first row of cubes for what is left of a day, or null. */
    private List<Integer> how(List<List<Integer>> from, String rest, List<Integer> used) {
        if (rest.isEmpty()) return used;
        for (int c = 0; c < from.size(); c++) {
            if (used.contains(c) || !showsFigure(from.get(c), rest.charAt(0) - '0')) continue;
            List<Integer> more = new ArrayList<>(used);
            more.add(c);
            List<Integer> found = how(from, rest.substring(1), more);
            if (found != null) return found;
        }
        return null;
    }

    private boolean can(List<List<Integer>> from, int day) {
        return how(from, asText(day), List.of()) != null;
    }

    private int count(List<List<Integer>> from) {
        int n = 0;
        for (int day : allDays()) if (can(from, day)) n++;
        return n;
    }

    int shown(int day, int i) {
        if (!isDay(day)) return OUTSIDE;
        List<Integer> row = how(present(cubes), asText(day), List.of());
        if (i == NONE) return row == null ? 0 : 1;
        return row == null || i < 0 || i >= row.size() ? NONE : row.get(i);
    }

    int days() {
        return count(present(cubes));
    }

    int gap() {
        for (int day : allDays()) if (!can(present(cubes), day)) return day;
        return NONE;
    }

    int must(int figure) {
        if (!isFigure(figure)) return UNKNOWN;
        int top = 0;
        for (int day : allDays()) {
            int often = 0;
            for (char x : asText(day).toCharArray()) if (x - '0' == figure || told.turned[x - '0'] == figure) often++;
            top = Math.max(top, often);
        }
        return top;
    }

    /** Ways, first pair, most days. */
    private int[] allPairs(int n) {
        int stand = 0;
        for (int figure = 0; figure < 10; figure++) if (told.turned[figure] >= figure) stand += 1 << figure;
        int size = Math.min(n, Integer.bitCount(stand));
        int[] found = {0, NONE, 0};
        List<Integer> all = allDays();
        for (int a = 0; a < 1024; a++) {
            if ((a & ~stand) != 0 || Integer.bitCount(a) != size) continue;
            for (int b = a; b < 1024; b++) {
                if ((b & ~stand) != 0 || Integer.bitCount(b) != size) continue;
                int count = countByPair(all, a, b);
                if (count == all.size()) {
                    if (found[0]++ == 0) found[1] = 1024 * a + b;
                }
                found[2] = Math.max(found[2], count);
            }
        }
        return found;
    }

    private int countByPair(List<Integer> all, int a, int b) {
        int count = 0;
        for (int day : all) {
            String s = asText(day);
            int x = 1 << Math.min(s.charAt(0) - '0', told.turned[s.charAt(0) - '0']);
            if (s.length() == 1) {
                if (((a | b) & x) != 0) count++;
                continue;
            }
            int y = 1 << Math.min(s.charAt(1) - '0', told.turned[s.charAt(1) - '0']);
            if ((a & x) != 0 && (b & y) != 0 || (b & x) != 0 && (a & y) != 0) count++;
        }
        return count;
    }

    int search(int n, int what) {
        return n < 1 || n > 6 || what < 0 || what > 1 ? OUTSIDE : allPairs(n)[what];
    }

    int most(int n) {
        return n < 1 || n > 6 ? OUTSIDE : allPairs(n)[2];
    }

    int gone(int c, int f) {
        if (!isCube(c)) return UNKNOWN;
        if (!isSide(c, f)) return OUTSIDE;
        List<List<Integer>> other = copy(cubes);
        other.get(c).remove(f);
        int n = 0;
        for (int day : allDays()) if (can(present(cubes), day) && !can(present(other), day)) n++;
        return n;
    }

    int worst() {
        int found = NONE;
        for (int c = 0; c < cubes.size(); c++) {
            for (int f = 0; f < cubes.get(c).size(); f++) {
                if (lost.get(c)) continue;
                if (found == NONE || gone(c, f) > gone(found / 10, found % 10)) found = 10 * c + f;
            }
        }
        return found;
    }

    private List<List<Integer>> with(int c, int f, int figure) {
        List<List<Integer>> other = copy(cubes);
        other.get(c).set(f, figure);
        return present(other);
    }

    int instead(int c, int f) {
        if (!isCube(c)) return UNKNOWN;
        if (!isSide(c, f)) return OUTSIDE;
        int found = 0;
        for (int figure = 1; figure < 10; figure++) {
            int more = count(with(c, f, figure)) - count(with(c, f, found));
            if (more > 0 || more == 0 && cost(figure) < cost(found)) found = figure;
        }
        return found;
    }

    int board(int k, int figure) {
        if (!isFigure(figure)) return UNKNOWN;
        if (k < 1 || k > 5) return OUTSIDE;
        if (told.turned[figure] < figure) return 0;
        int sum = 0;
        for (int i = 0; i < k; i++) sum += must(figure);
        return sum;
    }

    int sums(int s) {
        if (s < 0 || s > 36) return OUTSIDE;
        int[] ways = new int[100];
        ways[0] = 1;
        for (int c = 0; c < cubes.size(); c++) {
            if (lost.get(c)) continue;
            int[] next = new int[100];
            for (int figure : cubes.get(c)) for (int t = 0; t < 80; t++) next[t + figure] += ways[t];
            ways = next;
        }
        return ways[s];
    }

    int price(int set) {
        int sum = 0;
        for (int k = 0; k < 32; k++) {
            if ((set >>> k & 1) == 0) continue;
            if (k > 9) return UNKNOWN;
            sum += cost(k);
        }
        return sum;
    }

    int cheapest(int what) {
        if (what < 0 || what > 1) return OUTSIDE;
        if (gap() == NONE) return NONE;
        for (int cost = 0; cost <= 99; cost++) {
            for (int figure = 0; figure < 10; figure++) {
                if (cost(figure) != cost) continue;
                for (int c = 0; c < cubes.size(); c++) {
                    for (int f = 0; f < cubes.get(c).size(); f++) {
                        if (!lost.get(c) && can(with(c, f, figure), gap())) return what == 0 ? figure : 10 * c + f;
                    }
                }
            }
        }
        return NONE;
    }

    // ---- wrong days

    int wrong(int day, boolean shown) {
        if (!isDay(day)) return OUTSIDE;
        if (wrongDays.size() == 6) return FULL;
        wrongDays.add(new WrongDay(day, shown));
        return wrongDays.size();
    }

    private List<Integer> suspects() {
        List<Integer> all = new ArrayList<>();
        for (int c = 0; c < cubes.size(); c++) {
            for (int f = 0; f < cubes.get(c).size(); f++) {
                for (int figure = 0; figure < 10; figure++) {
                    boolean fits = cubes.get(c).get(f) != figure;
                    for (WrongDay w : wrongDays) fits = fits && can(with(c, f, figure), w.day) == w.shown;
                    if (fits) all.add(100 * c + 10 * f + figure);
                }
            }
        }
        return all;
    }

    int paintedOver(int i) {
        List<Integer> all = suspects();
        if (i == NONE) return all.size();
        return i < 0 || i >= all.size() ? NONE : all.get(i);
    }

    int lookOn() {
        List<Integer> all = suspects();
        int found = NONE;
        int least = all.size();
        for (int day : allDays()) {
            int yes = 0;
            for (int s : all) if (can(with(s / 100, s / 10 % 10, s % 10), day)) yes++;
            int part = Math.max(yes, all.size() - yes);
            if (part < least) {
                least = part;
                found = day;
            }
        }
        return found;
    }

    int write(int days) {
        if (days < 0 || days > 100) return OUTSIDE;
        if (book.size() == 15) return FULL;
        book.add(days);
        return book.size();
    }

    int tear() {
        int had = wrongDays.size() + book.size();
        wrongDays.clear();
        book.clear();
        return had;
    }

    int judge() {
        for (int i = 0; i < book.size(); i++) if (book.get(i) != days()) return i;
        return NONE;
    }

    // ---- draws, images

    int seed(int v) {
        if (v < 0) return OUTSIDE;
        int before = (int) seed;
        seed = v;
        return before;
    }

    int keep(int i) {
        if (i != 0 && i != 1) return UNKNOWN;
        images[i] = kept();
        past.clear();
        return 1;
    }

    int goBack(int i) {
        if (i != 0 && i != 1) return UNKNOWN;
        if (images[i] == null) return NOT;
        cubes = copy(images[i].cubes);
        lost = new ArrayList<>(images[i].lost);
        cost = images[i].cost;
        seed = images[i].seed;
        past.clear();
        return 1;
    }
}
