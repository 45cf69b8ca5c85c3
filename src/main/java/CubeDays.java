import java.util.Arrays;

/** Two cubes say the day: see DOC.md for what each call answers. */
public final class CubeDays {
    public static final int NONE = -1, UNKNOWN = -1000000001, OUTSIDE = -1000000002, NOT = -1000000003, FULL = -1000000004;

    private static final int FIGURES = 10;
    private static final int SETS = 1024;
    private static final int CUBES = 4;
    private static final int SIDES = 6;
    private static final int DAYS = 100;
    private static final int LETTERS = 220;
    private static final int TURNS = 4;
    private static final int UNDOABLE = 20;
    private static final int IMAGES = 2;
    private static final int WRONG_DAYS = 6;
    private static final int ENTRIES = 15;
    private static final int MORNINGS = 40;
    private static final int DRIFT_COST = 900000;
    private static final int TOP_SUM = 36;
    private static final int BOARD_DAYS = 5;
    private static final int SUSPECTS = CUBES * SIDES * FIGURES;

    private final Text text = new Text();
    /** Owns the desk and its state; the two behind it are names for these. */
    private final Trial trial = new Trial();
    private final Desk table = trial.desk;
    private final State now = trial.state;
    /** A text is read into this one, so that a fault leaves the table as it was. */
    private final Desk spare = new Desk();
    private final Past past = new Past();
    private final State[] images = new State[IMAGES];
    private final boolean[] isKept = new boolean[IMAGES];
    private final Notes notes = new Notes();
    private final Pairs pairs = new Pairs();
    private final int[] sightings = new int[DAYS];
    private int faultAt = NONE;

    public CubeDays() {
        for (int i = 0; i < IMAGES; i++) {
            images[i] = new State();
        }
    }

    // ---- the desk

    public int feed(int letter) {
        if (letter < 0 || letter > 255) {
            return OUTSIDE;
        }
        if (text.isFull()) {
            return FULL;
        }
        text.add((char) letter);
        return text.length;
    }

    public int desk() {
        int number = text.readInto(spare);
        faultAt = text.faultAt;
        if (number != 0) {
            return -10 - number;
        }
        table.take(spare);
        now.begin(table);
        past.clear();
        notes.clear();
        pairs.forget();
        for (int i = 0; i < IMAGES; i++) {
            isKept[i] = false;
        }
        return table.cubes;
    }

    public int fault() {
        return faultAt;
    }

    public int told(int what) {
        switch (what) {
            case 0: return table.low;
            case 1: return table.hasDays ? table.high : 0;
            case 2: return table.hasNoughts ? 1 : 0;
            case 3: return table.cubes;
            case 4: return text.length;
            case 5: return now.lost;
            case 6: return now.cost;
            case 7: return notes.wrongDays;
            case 8: return notes.entries;
            case 9: return past.size;
            case 10: return table.hasDays ? 1 : 0;
            default: return OUTSIDE;
        }
    }

    public int side(int c, int f) {
        if (!table.hasCube(c)) {
            return UNKNOWN;
        }
        if (f == NONE) {
            return table.sideCount[c];
        }
        return table.hasSide(c, f) ? now.figures[place(c, f)] : OUTSIDE;
    }

    public int turned(int figure) {
        return isFigure(figure) ? table.turnedOver[figure] : UNKNOWN;
    }

    public int shows(int c) {
        return table.hasCube(c) ? now.figuresSeen(table, c, NONE) : UNKNOWN;
    }

    // ---- what is done

    public int paint(int c, int f, int figure) {
        if (!table.hasCube(c) || !isFigure(figure)) {
            return UNKNOWN;
        }
        if (!table.hasSide(c, f)) {
            return OUTSIDE;
        }
        past.remember(now);
        now.putOn(table, c, f, figure);
        return now.cost;
    }

    public int lose(int c, boolean is) {
        if (!table.hasCube(c)) {
            return UNKNOWN;
        }
        past.remember(now);
        int before = now.isLost(c) ? 1 : 0;
        now.lost = is ? now.lost | 1 << c : now.lost & ~(1 << c);
        return before;
    }

    public int drift(int n) {
        if (n < 1 || n > MORNINGS) {
            return OUTSIDE;
        }
        if (table.cubes == 0) {
            return NOT;
        }
        if (now.cost > DRIFT_COST) {
            return FULL;
        }
        past.remember(now);
        for (int morning = 0; morning < n; morning++) {
            int c = now.draw(table.cubes);
            int f = table.hasCube(c) ? now.draw(table.sideCount[c]) : 0;
            int figure = now.draw(FIGURES);
            now.putOn(table, c, f, figure);
        }
        return now.cost;
    }

    public int undo() {
        if (past.size == 0) {
            return NOT;
        }
        past.bringBack(now);
        return past.size;
    }

    // ---- tried

    public int shown(int day, int i) {
        if (!table.hasDay(day)) {
            return OUTSIDE;
        }
        trial.begin();
        if (i == NONE) {
            return trial.canShow(day) ? 1 : 0;
        }
        return trial.canShow(day) ? trial.cubeFor(day, i) : NONE;
    }

    public int days() {
        trial.begin();
        return trial.countShown();
    }

    public int gap() {
        trial.begin();
        return trial.firstGap();
    }

    public int must(int figure) {
        return isFigure(figure) ? table.mostOften(figure) : UNKNOWN;
    }

    public int search(int n, int what) {
        if (n < 1 || n > SIDES || what < 0 || what > 1) {
            return OUTSIDE;
        }
        pairs.know(table, n);
        return what == 0 ? pairs.ways[n] : pairs.firstPair[n];
    }

    public int most(int n) {
        if (n < 1 || n > SIDES) {
            return OUTSIDE;
        }
        pairs.know(table, n);
        return pairs.mostDays[n];
    }

    public int gone(int c, int f) {
        if (!table.hasCube(c)) {
            return UNKNOWN;
        }
        if (!table.hasSide(c, f)) {
            return OUTSIDE;
        }
        trial.begin();
        return trial.countShown() - trial.countShownWithout(c, f);
    }

    public int worst() {
        trial.begin();
        int least = DAYS + 1;
        int found = NONE;
        for (int c = 0; c < table.cubes; c++) {
            for (int f = 0; f < table.sideCount[c] && !now.isLost(c); f++) {
                int left = trial.countShownWithout(c, f);
                if (left < least) {
                    least = left;
                    found = 10 * c + f;
                }
            }
        }
        return found;
    }

    public int instead(int c, int f) {
        if (!table.hasCube(c)) {
            return UNKNOWN;
        }
        if (!table.hasSide(c, f)) {
            return OUTSIDE;
        }
        trial.begin();
        int found = 0;
        int top = -1;
        for (int figure = 0; figure < FIGURES; figure++) {
            trial.repaint(c, f, figure);
            int count = trial.countShown();
            if (count > top || count == top && table.prices[figure] < table.prices[found]) {
                top = count;
                found = figure;
            }
        }
        return found;
    }

    public int board(int k, int figure) {
        if (!isFigure(figure)) {
            return UNKNOWN;
        }
        if (k < 1 || k > BOARD_DAYS) {
            return OUTSIDE;
        }
        // The same day may stand k times, so the day that needs most decides.
        return table.turnedOver[figure] < figure ? 0 : k * table.mostOften(figure);
    }

    public int sums(int s) {
        if (s < 0 || s > TOP_SUM) {
            return OUTSIDE;
        }
        return waysToSum(table, now, 0, s);
    }

    public int price(int set) {
        if (set < 0 || set >= SETS) {
            return UNKNOWN;
        }
        int sum = 0;
        for (int figure = 0; figure < FIGURES; figure++) {
            sum += (set >> figure & 1) * table.prices[figure];
        }
        return sum;
    }

    public int cheapest(int what) {
        if (what < 0 || what > 1) {
            return OUTSIDE;
        }
        trial.begin();
        int day = trial.firstGap();
        int found = NONE;
        int where = NONE;
        for (int figure = 0; figure < FIGURES && day != NONE; figure++) {
            if (found == NONE || table.prices[figure] < table.prices[found]) {
                int at = firstSideFor(day, figure);
                if (at != NONE) {
                    found = figure;
                    where = at;
                }
            }
        }
        return what == 0 ? found : where;
    }

    // ---- wrong days

    public int wrong(int day, boolean shown) {
        if (!table.hasDay(day)) {
            return OUTSIDE;
        }
        if (notes.wrongDays >= WRONG_DAYS) {
            return FULL;
        }
        notes.addWrong(day, shown);
        return notes.wrongDays;
    }

    public int paintedOver(int i) {
        trial.begin();
        int count = 0;
        for (int suspect = 0; suspect < SUSPECTS; suspect++) {
            if (fitsWhatIsTold(suspect)) {
                if (count == i) {
                    return 100 * cubeOf(suspect) + 10 * sideOf(suspect) + figureOf(suspect);
                }
                count++;
            }
            trial.restore(cubeOf(suspect));
        }
        return i == NONE ? count : NONE;
    }

    public int lookOn() {
        trial.begin();
        int count = 0;
        Arrays.fill(sightings, 0);
        for (int suspect = 0; suspect < SUSPECTS; suspect++) {
            if (fitsWhatIsTold(suspect)) {
                count++;
                trial.addSightings(sightings);
            }
            trial.restore(cubeOf(suspect));
        }
        int least = count;
        int found = NONE;
        for (int day = table.low; day <= table.high && day < DAYS; day++) {
            int alike = Math.max(sightings[day], count - sightings[day]);
            if (alike < least) {
                least = alike;
                found = day;
            }
        }
        return found;
    }

    public int write(int days) {
        if (days < 0 || days > DAYS) {
            return OUTSIDE;
        }
        if (notes.entries >= ENTRIES) {
            return FULL;
        }
        notes.addEntry(days);
        return notes.entries;
    }

    public int tear() {
        int had = notes.wrongDays + notes.entries;
        notes.clear();
        return had;
    }

    public int judge() {
        trial.begin();
        return notes.firstEntryNot(trial.countShown());
    }

    // ---- draws, images

    public int seed(int v) {
        if (v < 0) {
            return OUTSIDE;
        }
        int before = now.drawn;
        now.drawn = v;
        return before;
    }

    public int keep(int i) {
        if (i < 0 || i >= IMAGES) {
            return UNKNOWN;
        }
        images[i].takeAll(now);
        isKept[i] = true;
        past.clear();
        return 1;
    }

    public int goBack(int i) {
        if (i < 0 || i >= IMAGES) {
            return UNKNOWN;
        }
        if (!isKept[i]) {
            return NOT;
        }
        now.takeAll(images[i]);
        past.clear();
        return 1;
    }

    // ---- helpers

    private static boolean isFigure(int figure) {
        return figure >= 0 && figure < FIGURES;
    }

    private static int place(int c, int f) {
        return c * SIDES + f;
    }

    /** The least number in a set that is not empty. */
    private static int leastOf(int set) {
        return Integer.bitCount((set & -set) - 1);
    }

    // A suspect is a side and a figure on it, numbered so that they rise as the document wants.
    private static int cubeOf(int suspect) {
        return suspect / (SIDES * FIGURES);
    }

    private static int sideOf(int suspect) {
        return suspect / FIGURES % SIDES;
    }

    private static int figureOf(int suspect) {
        return suspect % FIGURES;
    }

    /** Leaves the suspect's figure on the trial's cube, for the caller to look at and to restore. */
    private boolean fitsWhatIsTold(int suspect) {
        int c = cubeOf(suspect);
        int f = sideOf(suspect);
        int figure = figureOf(suspect);
        if (!table.hasSide(c, f) || now.figures[place(c, f)] == figure) {
            return false;
        }
        trial.repaint(c, f, figure);
        for (int i = 0; i < notes.wrongDays; i++) {
            if (trial.canShow(notes.wrongDay[i]) != notes.wasShown[i]) {
                return false;
            }
        }
        return true;
    }

    /** The first side on which the figure makes the day shown, as 10 times the cube and the side. */
    private int firstSideFor(int day, int figure) {
        for (int c = 0; c < table.cubes; c++) {
            for (int f = 0; f < table.sideCount[c] && !now.isLost(c); f++) {
                trial.repaint(c, f, figure);
                boolean can = trial.canShow(day);
                trial.restore(c);
                if (can) {
                    return 10 * c + f;
                }
            }
        }
        return NONE;
    }

    /** Ways in which the cubes from c on sum up to s; at most one level for each cube. */
    private static int waysToSum(Desk desk, State state, int c, int s) {
        if (!desk.hasCube(c)) {
            return s == 0 ? 1 : 0;
        }
        if (state.isLost(c)) {
            return waysToSum(desk, state, c + 1, s);
        }
        int count = 0;
        for (int f = 0; f < desk.sideCount[c]; f++) {
            count += waysToSum(desk, state, c + 1, s - state.figures[place(c, f)]);
        }
        return count;
    }

    /** What the text tells and nothing changes: days, cubes' sizes, figures turned over, prices. */
    private static final class Desk {
        boolean hasDays;
        int low;
        int high;
        boolean hasNoughts;
        int cubes;
        final int[] sideCount = new int[CUBES];
        final int[] figures = new int[CUBES * SIDES];
        final int[] turnedOver = new int[FIGURES];
        final int[] prices = new int[FIGURES];

        Desk() {
            clear();
        }

        /** Without days the last is below the first, so that no loop over them runs. */
        void clear() {
            hasDays = false;
            low = 0;
            high = -1;
            hasNoughts = false;
            cubes = 0;
            for (int figure = 0; figure < FIGURES; figure++) {
                turnedOver[figure] = figure;
                prices[figure] = 1;
            }
        }

        void take(Desk from) {
            hasDays = from.hasDays;
            low = from.low;
            high = from.high;
            hasNoughts = from.hasNoughts;
            cubes = from.cubes;
            System.arraycopy(from.sideCount, 0, sideCount, 0, CUBES);
            System.arraycopy(from.figures, 0, figures, 0, CUBES * SIDES);
            System.arraycopy(from.turnedOver, 0, turnedOver, 0, FIGURES);
            System.arraycopy(from.prices, 0, prices, 0, FIGURES);
        }

        boolean hasCube(int c) {
            return c >= 0 && c < cubes && c < CUBES;
        }

        boolean hasSide(int c, int f) {
            return hasCube(c) && f >= 0 && f < sideCount[c] && f < SIDES;
        }

        boolean hasDay(int day) {
            return day >= low && day <= high;
        }

        int dayCount() {
            return high - low + 1;
        }

        boolean hasTwoPlaces(int day) {
            return (hasNoughts ? high : day) >= FIGURES;
        }

        /** The figure and what it is turned over, as a set. */
        int bothWays(int figure) {
            return 1 << figure | 1 << turnedOver[figure];
        }

        /** How often the day that has it most often has the figure, or what it is turned over. */
        int mostOften(int figure) {
            int wanted = bothWays(figure);
            int top = 0;
            for (int day = low; day <= high; day++) {
                int often = wanted >> day % FIGURES & 1;
                if (hasTwoPlaces(day)) {
                    often += wanted >> day / FIGURES & 1;
                }
                top = Math.max(top, often);
            }
            return top;
        }
    }

    /** THE TEXT, read clause by clause up to its first fault. */
    private static final class Text {
        final char[] letters = new char[LETTERS];
        int length = 0;
        int faultAt = NONE;
        private int faultNumber = 0;
        private int at = 0;
        private int numberAt = 0;
        private int turns = 0;
        private int priced = 0;

        boolean isFull() {
            return length >= LETTERS;
        }

        void add(char letter) {
            if (!isFull()) {
                letters[length] = letter;
                length++;
            }
        }

        /** Empties the text; answers the number of its fault, 0 if it has none. */
        int readInto(Desk desk) {
            desk.clear();
            at = 0;
            turns = 0;
            priced = 0;
            faultNumber = 0;
            faultAt = NONE;
            for (int clause = 0; clause < LETTERS && hasMore(); clause++) {
                readClause(desk);
            }
            length = 0;
            return faultNumber;
        }

        private boolean hasMore() {
            skipBlanks();
            return faultNumber == 0 && at < length;
        }

        private void skipBlanks() {
            while (at < length && letters[at] == ' ') {
                at++;
            }
        }

        private boolean isNext(char letter) {
            skipBlanks();
            return at < length && letters[at] == letter;
        }

        /** Reading goes forward only, so the first fault blamed is the one to tell. */
        private void blame(int number, int where) {
            if (faultNumber == 0) {
                faultNumber = number;
                faultAt = where;
            }
        }

        private void readClause(Desk desk) {
            if (isNext('d')) {
                readDays(desk);
            } else if (!desk.hasDays) {
                blame(1, at);
            } else if (isNext('c')) {
                readCube(desk);
            } else if (isNext('t')) {
                readTurn(desk);
            } else if (isNext('p')) {
                readPrice(desk);
            } else {
                blame(1, at);
            }
        }

        /** Steps over the clause's word, unless there may be no more such clauses. */
        private void readWord(boolean isTooMany) {
            if (isTooMany) {
                blame(3, at);
            } else {
                at++;
            }
        }

        private int readNumber(int top) {
            if (faultNumber != 0) {
                return 0;
            }
            skipBlanks();
            numberAt = at;
            int value = 0;
            while (at < length && letters[at] >= '0' && letters[at] <= '9') {
                // Beyond three figures it is a fault whatever its value; so it can't overflow.
                if (at - numberAt < 3) {
                    value = 10 * value + letters[at] - '0';
                }
                at++;
            }
            if (at == numberAt) {
                blame(1, at);
            } else if (at - numberAt > 3 || value > top) {
                blame(2, numberAt);
            }
            return faultNumber == 0 ? value : 0;
        }

        private void readEnd() {
            if (isNext(';')) {
                at++;
            } else {
                blame(1, at);
            }
        }

        private void readDays(Desk desk) {
            readWord(desk.hasDays);
            int low = readNumber(DAYS - 1);
            int high = readNumber(DAYS - 1);
            if (high < low) {
                blame(4, numberAt);
            }
            int noughts = readNumber(1);
            readEnd();
            if (faultNumber == 0) {
                desk.hasDays = true;
                desk.low = low;
                desk.high = high;
                desk.hasNoughts = noughts == 1;
            }
        }

        private void readCube(Desk desk) {
            int c = desk.cubes;
            readWord(c >= CUBES);
            boolean goesOn = true;
            for (int f = 0; f < SIDES && goesOn && faultNumber == 0; f++) {
                desk.figures[place(c, f)] = readNumber(FIGURES - 1);
                desk.sideCount[c] = f + 1;
                // A comma behind the sixth stays, and is no end of the clause.
                goesOn = f + 1 < SIDES && isNext(',');
                if (goesOn) {
                    at++;
                }
            }
            readEnd();
            if (faultNumber == 0) {
                desk.cubes = c + 1;
            }
        }

        private void readTurn(Desk desk) {
            readWord(turns >= TURNS);
            int one = readNumber(FIGURES - 1);
            if (desk.turnedOver[one] != one) {
                blame(4, numberAt);
            }
            int other = readNumber(FIGURES - 1);
            if (other == one || desk.turnedOver[other] != other) {
                blame(4, numberAt);
            }
            readEnd();
            if (faultNumber == 0) {
                desk.turnedOver[one] = other;
                desk.turnedOver[other] = one;
                turns++;
            }
        }

        private void readPrice(Desk desk) {
            readWord(false);
            int figure = readNumber(FIGURES - 1);
            if ((priced >> figure & 1) == 1) {
                blame(4, numberAt);
            }
            int cost = readNumber(99);
            readEnd();
            if (faultNumber == 0) {
                desk.prices[figure] = cost;
                priced |= 1 << figure;
            }
        }
    }

    /** What changes on a desk: the figures on the sides, who is lost, the cost, the seed. */
    private static final class State {
        final int[] figures = new int[CUBES * SIDES];
        int lost = 0;
        int cost = 0;
        int drawn = 0;

        void begin(Desk desk) {
            System.arraycopy(desk.figures, 0, figures, 0, CUBES * SIDES);
            lost = 0;
            cost = 0;
        }

        /** All but the seed, which stays when something is undone. */
        void takeDone(State from) {
            System.arraycopy(from.figures, 0, figures, 0, CUBES * SIDES);
            lost = from.lost;
            cost = from.cost;
        }

        void takeAll(State from) {
            takeDone(from);
            drawn = from.drawn;
        }

        boolean isLost(int c) {
            return (lost >> c & 1) == 1;
        }

        void putOn(Desk desk, int c, int f, int figure) {
            if (desk.hasSide(c, f) && isFigure(figure)) {
                figures[place(c, f)] = figure;
                cost += desk.prices[figure];
            }
        }

        int draw(int n) {
            drawn = (int) (drawn * 1103515245L + 12345L & 2147483647L);
            return n > 0 ? drawn / 65536 % n : 0;
        }

        /** The set of figures that the cube would show if one side (or NONE) were blank. */
        int figuresSeen(Desk desk, int c, int blank) {
            int seen = 0;
            for (int f = 0; f < desk.sideCount[c]; f++) {
                if (f != blank) {
                    seen |= desk.bothWays(figures[place(c, f)]);
                }
            }
            return seen;
        }
    }

    /** What can be undone: a ring, in which the latest overwrite the oldest. */
    private static final class Past {
        int size = 0;
        private int next = 0;
        private final State[] states = new State[UNDOABLE];

        Past() {
            for (int i = 0; i < UNDOABLE; i++) {
                states[i] = new State();
            }
        }

        void clear() {
            size = 0;
        }

        void remember(State now) {
            states[next].takeDone(now);
            next = (next + 1) % UNDOABLE;
            size = Math.min(size + 1, UNDOABLE);
        }

        void bringBack(State now) {
            if (size > 0) {
                next = (next + UNDOABLE - 1) % UNDOABLE;
                size--;
                now.takeDone(states[next]);
            }
        }
    }

    /** The wrong days and the book. */
    private static final class Notes {
        int wrongDays = 0;
        int entries = 0;
        final int[] wrongDay = new int[WRONG_DAYS];
        final boolean[] wasShown = new boolean[WRONG_DAYS];
        private final int[] book = new int[ENTRIES];

        void clear() {
            wrongDays = 0;
            entries = 0;
        }

        void addWrong(int day, boolean was) {
            if (wrongDays < WRONG_DAYS) {
                wrongDay[wrongDays] = day;
                wasShown[wrongDays] = was;
                wrongDays++;
            }
        }

        void addEntry(int count) {
            if (entries < ENTRIES) {
                book[entries] = count;
                entries++;
            }
        }

        int firstEntryNot(int count) {
            for (int i = 0; i < entries; i++) {
                if (book[i] != count) {
                    return i;
                }
            }
            return NONE;
        }
    }

    /** What is tried from now: cubes may be seen otherwise in it, and the state stays as it is. */
    private static final class Trial {
        final Desk desk = new Desk();
        final State state = new State();
        /** Row by figure: the cubes, not lost, that show it. */
        private final int[] cubesFor = new int[FIGURES];

        /** Sees all as it is now. */
        void begin() {
            Arrays.fill(cubesFor, 0);
            for (int c = 0; c < desk.cubes; c++) {
                restore(c);
            }
        }

        private void see(int c, int figures) {
            int seen = state.isLost(c) ? 0 : figures;
            for (int figure = 0; figure < FIGURES; figure++) {
                cubesFor[figure] = cubesFor[figure] & ~(1 << c) | (seen >> figure & 1) << c;
            }
        }

        void restore(int c) {
            if (desk.hasCube(c)) {
                see(c, state.figuresSeen(desk, c, NONE));
            }
        }

        void repaint(int c, int f, int figure) {
            see(c, state.figuresSeen(desk, c, f) | desk.bothWays(figure));
        }

        /** With two places: each has a cube, and it is not one and the same for both. */
        boolean canShow(int day) {
            int last = cubesFor[day % FIGURES];
            if (!desk.hasTwoPlaces(day)) {
                return last != 0;
            }
            int first = cubesFor[day / FIGURES];
            int either = first | last;
            return first != 0 && last != 0 && (either & either - 1) != 0;
        }

        /** How the day is shown: only for one that can be. */
        int cubeFor(int day, int i) {
            int last = cubesFor[day % FIGURES];
            if (!desk.hasTwoPlaces(day)) {
                return i == 0 ? leastOf(last) : NONE;
            }
            int first = cubesFor[day / FIGURES];
            // The least cube serves the first place, unless it is the only one for the last.
            int taken = first & -first;
            if (taken == last) {
                first &= ~taken;
                taken = first & -first;
            }
            if (i == 0) {
                return leastOf(taken);
            }
            return i == 1 ? leastOf(last & ~taken) : NONE;
        }

        int countShown() {
            int count = 0;
            for (int day = desk.low; day <= desk.high; day++) {
                if (canShow(day)) {
                    count++;
                }
            }
            return count;
        }

        int countShownWithout(int c, int f) {
            see(c, state.figuresSeen(desk, c, f));
            int count = countShown();
            restore(c);
            return count;
        }

        int firstGap() {
            for (int day = desk.low; day <= desk.high; day++) {
                if (!canShow(day)) {
                    return day;
                }
            }
            return NONE;
        }

        void addSightings(int[] sightings) {
            for (int day = desk.low; day <= desk.high && day < sightings.length; day++) {
                if (canShow(day)) {
                    sightings[day]++;
                }
            }
        }
    }

    /**
     * The search for two cubes. What it finds hangs on the desk alone, so it is kept for each n
     * till there is another desk. Days are counted by their figures once; a pair of sets is then
     * weighed by sums that are made beforehand, instead of day by day.
     */
    private static final class Pairs {
        private static final int HALF = 5;
        private static final int HALF_SETS = 32;
        private static final int MOST_SETS = 252;

        final int[] ways = new int[SIDES + 1];
        final int[] firstPair = new int[SIDES + 1];
        final int[] mostDays = new int[SIDES + 1];
        private final boolean[] isKnown = new boolean[SIDES + 1];
        private boolean isCounted = false;
        /** Days of one place, by its figure; days of two places, by both figures in either order. */
        private final int[] single = new int[FIGURES];
        private final int[] twin = new int[FIGURES * FIGURES];
        /** By set: the days that are counted twice if both cubes have the set. */
        private final int[] doubled = new int[SETS];
        /** For the first cube of a pair: what a figure on the second adds; then that for half sets. */
        private final int[] added = new int[FIGURES];
        private final int[] addedLow = new int[HALF_SETS];
        private final int[] addedHigh = new int[HALF_SETS];
        private final int[] sets = new int[MOST_SETS];
        private int setCount = 0;

        void forget() {
            isCounted = false;
            for (int n = 0; n <= SIDES; n++) {
                isKnown[n] = false;
            }
        }

        /** Only for n from 1 to 6. */
        void know(Desk desk, int n) {
            if (!isCounted) {
                countDays(desk);
                countDoubled();
                isCounted = true;
            }
            if (!isKnown[n]) {
                listSets(desk, n);
                weighAll(desk.dayCount(), n);
                isKnown[n] = true;
            }
        }

        private static int lesser(Desk desk, int figure) {
            return Math.min(figure, desk.turnedOver[figure]);
        }

        private void countDays(Desk desk) {
            Arrays.fill(single, 0);
            Arrays.fill(twin, 0);
            for (int day = desk.low; day <= desk.high; day++) {
                int last = lesser(desk, day % FIGURES);
                if (desk.hasTwoPlaces(day)) {
                    int first = lesser(desk, day / FIGURES);
                    twin[first * FIGURES + last]++;
                    if (first != last) {
                        twin[last * FIGURES + first]++;
                    }
                } else {
                    single[last]++;
                }
            }
        }

        private void countDoubled() {
            doubled[0] = 0;
            for (int set = 1; set < SETS; set++) {
                int least = leastOf(set);
                int rest = set & set - 1;
                int count = doubled[rest] + single[least];
                for (int figure = least + 1; figure < FIGURES; figure++) {
                    count += (rest >> figure & 1) * twin[least * FIGURES + figure];
                }
                doubled[set] = count;
            }
        }

        private void listSets(Desk desk, int n) {
            int all = 0;
            for (int figure = 0; figure < FIGURES; figure++) {
                all |= 1 << lesser(desk, figure);
            }
            int size = Math.min(n, Integer.bitCount(all));
            setCount = 0;
            for (int set = 0; set < SETS && setCount < MOST_SETS; set++) {
                if ((set & ~all) == 0 && Integer.bitCount(set) == size) {
                    sets[setCount] = set;
                    setCount++;
                }
            }
        }

        private void weighAll(int dayCount, int n) {
            ways[n] = 0;
            firstPair[n] = NONE;
            mostDays[n] = 0;
            for (int i = 0; i < setCount; i++) {
                int first = sets[i];
                int alone = weighFirst(first);
                for (int j = i; j < setCount; j++) {
                    int second = sets[j];
                    int count = alone + addedLow[second % HALF_SETS] + addedHigh[second / HALF_SETS]
                            - doubled[first & second];
                    if (count > mostDays[n]) {
                        mostDays[n] = count;
                    }
                    if (count == dayCount) {
                        if (ways[n] == 0) {
                            firstPair[n] = SETS * first + second;
                        }
                        ways[n]++;
                    }
                }
            }
        }

        /** Answers the days that the first cube shows alone, and makes the sums for any second. */
        private int weighFirst(int first) {
            int alone = 0;
            for (int figure = 0; figure < FIGURES; figure++) {
                int sum = single[figure];
                for (int other = 0; other < FIGURES; other++) {
                    sum += (first >> other & 1) * twin[figure * FIGURES + other];
                }
                added[figure] = sum;
                alone += (first >> figure & 1) * single[figure];
            }
            for (int half = 1; half < HALF_SETS; half++) {
                int least = leastOf(half);
                int rest = half & half - 1;
                addedLow[half] = addedLow[rest] + added[least];
                addedHigh[half] = addedHigh[rest] + added[HALF + least];
            }
            return alone;
        }
    }
}
