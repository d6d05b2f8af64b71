import java.util.NoSuchElementException;

/** A table whose columns are of many kinds, its rows arranged so that runs of like cells get long. */
public final class LongRuns {
    public static final int NONE = -1;

    private static final int MOST_COLUMNS = 6;
    private static final int MOST_ROWS = 16;
    private static final int MOST_SIGNS = 80;
    private static final int MOST_UNDONE = 8;
    private static final int MOST_KEPT = 2;
    /** A coded column tells two numbers for each run, and a run has at least one row. */
    private static final int MOST_ANSWERS = 2 * MOST_ROWS;
    private static final int MOST_ORDERED = 5;
    /** As many orders as five columns have. */
    private static final int MOST_ORDERS = 120;
    private static final int LEAST_BLOCK = 2;
    private static final int MOST_BLOCK = 16;
    private static final int MOST_SWAPS = 20;
    private static final int ALL_COLUMNS = 63;
    private static final int NO_CHANGE_OF_RUNS = 1000;
    private static final int MISSING_SHEET = 3;
    private static final int MORE_THAN_ALL_RUNS = MOST_COLUMNS * MOST_ROWS + 1;

    private final Table now = new Table();
    private final Past past = new Past();
    private final Table[] kept = new Table[MOST_KEPT];
    private final boolean[] isKept = new boolean[MOST_KEPT];
    private final Signs text = new Signs();
    private final Answers answers = new Answers();
    private final Ranks ranks = new Ranks();
    private final ColumnOrder order = new ColumnOrder();
    private final Line line = new Line();

    public LongRuns() {
        for (int i = 0; i < MOST_KEPT; i++) {
            kept[i] = new Table();
        }
    }

    // ---- texts

    public int sign(int v) {
        return text.addFour(v) ? text.size : NONE;
    }

    public boolean end(int n) {
        return text.cut(n);
    }

    public int table() {
        int wrong = wrongInTable();
        if (wrong == NONE) {
            past.note(now);
            now.begin(text);
            past.hold();
        }
        text.clear();
        return wrong == NONE ? now.columns : -1 - wrong;
    }

    private int wrongInTable() {
        if (text.digitAt(0) < 0) {
            return 0;
        }
        if (text.digitAt(1) < 0 || text.twoDigitsAt(0) > MOST_ROWS) {
            return 1;
        }
        for (int p = 2; p < text.size; p++) {
            if (p >= 2 + MOST_COLUMNS || Kinds.ofLetter(text.signAt(p)) < 0) {
                return p;
            }
        }
        return NONE;
    }

    public int sheet(int column, int way, int kind, int n, int f, int step) {
        if (!now.hasColumn(column) || kind < 0 || kind > MISSING_SHEET || !Kinds.puts(way) || n > MOST_ROWS) {
            return NONE;
        }
        if (kind == MISSING_SHEET) {
            return -3;
        }
        if (n < 0) {
            return -2;
        }
        int done = 0;
        for (int k = 0; k < n; k++) {
            if (putTold(column, k, way, entry(kind, f + k * step)) == 0) {
                done++;
            }
        }
        return done;
    }

    private static int entry(int kind, int v) {
        if (kind == 0) {
            return (byte) v;
        }
        return kind == 1 ? (short) v : v;
    }

    // ---- cells

    public int put(int column, int row, int way, int v) {
        past.note(now);
        return heldIfDone(putTold(column, row, way, v));
    }

    /** Keeps what was noted ahead of a call, if the call did what it was asked. */
    private int heldIfDone(int answered) {
        if (answered >= 0) {
            past.hold();
        }
        return answered;
    }

    private int putTold(int column, int row, int way, int v) {
        if (!now.hasColumn(column) || !Kinds.puts(way)) {
            return NONE;
        }
        int why = now.whyNotPut(column, row, way);
        if (why == 0) {
            now.store(column, row, Kinds.toldKind(way), Kinds.told(way, v));
        }
        return -why;
    }

    public int take(int column, int row, int way) {
        if (!now.hasColumn(column) || !Kinds.takes(way)) {
            return NONE;
        }
        int why = now.whyNotTaken(column, row, way);
        if (why == 0) {
            answers.tell(now.taken(column, row, way));
        }
        return -why;
    }

    public int length(int column) {
        if (!now.hasColumn(column)) {
            return NONE;
        }
        int why = now.whyUnasked(column);
        return why == 0 ? now.rows : -why;
    }

    public int kind(int column) {
        return now.hasColumn(column) ? now.kinds[column] : NONE;
    }

    public int copies(int from, int to) {
        if (!now.hasColumn(from) || !now.hasColumn(to) || from == to) {
            return NONE;
        }
        int why = now.whyUnaskedOfBoth(from, to);
        if (why != 0) {
            return -why;
        }
        past.note(now);
        int left = 0;
        for (int row = 0; row < now.rows; row++) {
            if (!now.copyCell(from, to, row)) {
                left |= 1 << row;
            }
        }
        past.hold();
        answers.tell(left);
        return now.rows - Integer.bitCount(left);
    }

    public int carries(int from, int row, int to, int other, int way) {
        if (!now.hasColumn(from) || !now.hasColumn(to) || !Kinds.isNumberWay(way)) {
            return NONE;
        }
        int why = now.whyNotTaken(from, row, way);
        if (why != 0) {
            return -why;
        }
        why = now.whyNotPut(to, other, way);
        if (why != 0) {
            return -10 - why;
        }
        past.note(now);
        now.store(to, other, way, now.taken(from, row, way));
        past.hold();
        return 0;
    }

    public int ways(int column) {
        if (!now.hasColumn(column)) {
            return NONE;
        }
        int takes = 0;
        int puts = 0;
        for (int way = 0; way <= Kinds.DOUBLES; way++) {
            if (now.whyNotTaken(column, 0, way) == 0) {
                takes |= 1 << way;
            }
            if (now.whyNotPut(column, 0, way) == 0) {
                puts |= 1 << way;
            }
        }
        answers.tell(puts);
        return takes;
    }

    public int same(int one, int other) {
        if (!now.hasColumn(one) || !now.hasColumn(other)) {
            return NONE;
        }
        int why = now.whyUnaskedOfBoth(one, other);
        if (why != 0) {
            return -why;
        }
        int found = 0;
        int firstNot = NONE;
        for (int row = 0; row < now.rows; row++) {
            if (now.sameWorth(one, other, row)) {
                found++;
            } else if (firstNot == NONE) {
                firstNot = row;
            }
        }
        answers.tell(firstNot);
        return found;
    }

    // ---- runs

    public int runs(int column) {
        if (!now.isProper(column)) {
            return now.hasColumn(column) ? -2 : NONE;
        }
        ranks.readColumn(now, column);
        int longest = 0;
        int first = NONE;
        int begin = 0;
        for (int row = 0; row < now.rows; row++) {
            if (now.beginsRun(column, row)) {
                begin = row;
            }
            if (row - begin + 1 > longest) {
                longest = row - begin + 1;
                first = begin;
            }
        }
        answers.tell(ranks.distinct[column], longest, first);
        return now.runsOf(column);
    }

    public int all() {
        int proper = now.properSet();
        answers.tell(proper, Integer.bitCount(proper) * now.rows);
        return now.runsOfAll();
    }

    public int unlike(int row, int other) {
        return now.hasRow(row) && now.hasRow(other) ? now.unlikeCells(row, other) : NONE;
    }

    public int rank(int column, int row) {
        if (!now.hasColumn(column) || !now.hasRow(row)) {
            return NONE;
        }
        if (!now.isProper(column)) {
            return -2;
        }
        ranks.readColumn(now, column);
        int like = 0;
        for (int other = 0; other < now.rows; other++) {
            if (now.isLike(column, row, other)) {
                like++;
            }
        }
        answers.tell(like);
        return ranks.of(column, row);
    }

    public int least() {
        ranks.readAll(now);
        int sum = 0;
        for (int column = 0; column < now.columns; column++) {
            if (now.isProper(column)) {
                sum += ranks.distinct[column];
            }
        }
        answers.tell(now.runsOfAll() - sum);
        return sum;
    }

    public int bound() {
        int wrong = order.readTold(text, now);
        text.clear();
        if (wrong != NONE) {
            return -1 - wrong;
        }
        ranks.readAll(now);
        int product = 1;
        int sum = 0;
        for (int k = 0; k < order.size; k++) {
            product *= ranks.distinct[order.columns[k]];
            sum += Math.min(now.rows, product);
        }
        return sum;
    }

    public int coded(int column) {
        if (!now.isProper(column)) {
            return now.hasColumn(column) ? -2 : NONE;
        }
        answers.clear();
        int begin = 0;
        for (int row = 0; row < now.rows; row++) {
            if (row + 1 == now.rows || now.beginsRun(column, row + 1)) {
                answers.add(now.cell(column, row));
                answers.add(row + 1 - begin);
                begin = row + 1;
            }
        }
        return now.runsOf(column);
    }

    public int alike(int row, int set) {
        if (!now.hasRow(row) || set < 0 || set > ALL_COLUMNS) {
            return NONE;
        }
        int found = 0;
        for (int other = 0; other < now.rows; other++) {
            if (now.isLikeInAll(set, row, other)) {
                found |= 1 << other;
            }
        }
        answers.tell(found);
        return Integer.bitCount(found);
    }

    // ---- arranged

    public int sorts(boolean reflected) {
        int wrong = order.readTold(text, now);
        text.clear();
        if (wrong != NONE) {
            return -1 - wrong;
        }
        past.note(now);
        ranks.readAll(now);
        line.read(now);
        int ahead = line.runsOfLine();
        line.sortBy(order, ranks, reflected);
        answers.tell(ahead, line.runsOfLine());
        past.hold();
        return line.carryOut(now);
    }

    public int fewest() {
        order.readProper(now);
        ranks.readAll(now);
        order.sortByFewest(ranks);
        tellOrder();
        return order.size;
    }

    private void tellOrder() {
        answers.clear();
        for (int k = 0; k < order.size; k++) {
            answers.add(order.columns[k]);
        }
    }

    public int best(boolean reflected) {
        order.readProper(now);
        if (order.size == 0 || order.size > MOST_ORDERED) {
            return -2;
        }
        ranks.readAll(now);
        line.read(now);
        int fewestRuns = MORE_THAN_ALL_RUNS;
        boolean more = true;
        for (int tried = 0; more && tried < MOST_ORDERS; tried++) {
            line.sortBy(order, ranks, reflected);
            if (line.runsOfLine() < fewestRuns) {
                fewestRuns = line.runsOfLine();
                tellOrder();
            }
            more = order.stepOn();
        }
        return fewestRuns;
    }

    public int tours(int b) {
        past.note(now);
        int blocks = heldIfDone(tourTold(b));
        if (blocks >= 0) {
            answers.tell(now.runsOfAll());
        }
        return blocks;
    }

    private static boolean isBlock(int b) {
        return b >= LEAST_BLOCK && b <= MOST_BLOCK;
    }

    private int tourTold(int b) {
        if (!isBlock(b)) {
            return NONE;
        }
        line.read(now);
        int blocks = line.tourBlocks(b);
        line.carryOut(now);
        return blocks;
    }

    public int swaps(int row, int other) {
        past.note(now);
        return heldIfDone(moveTold(row, other, true));
    }

    private int moveTold(int row, int to, boolean isSwap) {
        if (!now.hasRow(row) || !now.hasRow(to)) {
            return NONE;
        }
        if (row == to) {
            return -2;
        }
        line.read(now);
        int ahead = line.runsOfLine();
        if (isSwap) {
            line.exchange(row, to);
        } else {
            line.shift(row, to);
        }
        line.carryOut(now);
        return NO_CHANGE_OF_RUNS + ahead - line.runsOfLine();
    }

    public int moves(int row, int to) {
        past.note(now);
        return heldIfDone(moveTold(row, to, false));
    }

    public int bestSwap() {
        line.read(now);
        int ahead = line.runsOfLine();
        int most = 0;
        for (int row = 0; row < now.rows; row++) {
            for (int other = row + 1; other < now.rows; other++) {
                line.exchange(row, other);
                int taken = ahead - line.runsOfLine();
                line.exchange(row, other);
                if (taken > most) {
                    most = taken;
                    answers.tell(row, other);
                }
            }
        }
        return most > 0 ? most : -2;
    }

    public int place(int row) {
        if (!now.hasRow(row)) {
            return NONE;
        }
        line.read(now);
        int fewestRuns = MORE_THAN_ALL_RUNS;
        int found = row;
        for (int to = 0; to < now.rows; to++) {
            line.shift(row, to);
            int left = line.runsOfLine();
            line.shift(to, row);
            if (left < fewestRuns) {
                fewestRuns = left;
                found = to;
            }
        }
        answers.tell(fewestRuns);
        return found;
    }

    public int restores() {
        past.note(now);
        return heldIfDone(restoreTold());
    }

    private int restoreTold() {
        line.read(now);
        line.followTags(now);
        return line.carryOut(now);
    }

    public int tagged(int tag) {
        for (int row = 0; row < now.rows; row++) {
            if (now.tags[row] == tag) {
                return row;
            }
        }
        return NONE;
    }

    // ---- days

    public int day() {
        int wrong = wrongInDay();
        if (wrong != NONE) {
            text.clear();
            return -1 - wrong;
        }
        past.note(now);
        int done = 0;
        int stopped = 0;
        for (int p = 0; p < text.size && stopped == 0; p += Math.max(1, signsOfAct(p))) {
            if (doAct(p) < 0) {
                stopped = 1;
            } else {
                done++;
            }
        }
        text.clear();
        if (done > 0) {
            past.hold();
        }
        answers.tell(stopped, now.runsOfAll());
        return done;
    }

    private int wrongInDay() {
        for (int p = 0; p < text.size; p += Math.max(1, signsOfAct(p))) {
            int wrong = wrongInAct(p);
            if (wrong != NONE) {
                return wrong;
            }
        }
        return NONE;
    }

    private int wrongInAct(int p) {
        int signs = signsOfAct(p);
        if (signs == 0) {
            return p;
        }
        boolean isPut = text.signAt(p) == 'p';
        if (isPut && !isColumnLetter(p + 1)) {
            return p + 1;
        }
        for (int q = isPut ? p + 2 : p + 1; q < p + signs; q++) {
            if (text.digitAt(q) < 0) {
                return q;
            }
        }
        return NONE;
    }

    private boolean isColumnLetter(int p) {
        return text.letterAt(p) >= 0 && text.letterAt(p) < MOST_COLUMNS;
    }

    /** How many signs the act at p has, its letter too: 0 if there is no such act. */
    private int signsOfAct(int p) {
        switch (text.signAt(p)) {
            case 's':
            case 'm':
                return 5;
            case 't':
                return 3;
            case 'r':
                return 1;
            case 'p':
                return 8;
            default:
                return 0;
        }
    }

    private int doAct(int p) {
        switch (text.signAt(p)) {
            case 's':
                return moveTold(text.twoDigitsAt(p + 1), text.twoDigitsAt(p + 3), true);
            case 'm':
                return moveTold(text.twoDigitsAt(p + 1), text.twoDigitsAt(p + 3), false);
            case 't':
                return tourTold(text.twoDigitsAt(p + 1));
            case 'r':
                return restoreTold();
            default:
                return putTold(text.letterAt(p + 1), text.twoDigitsAt(p + 2),
                        text.twoDigitsAt(p + 4), text.twoDigitsAt(p + 6));
        }
    }

    public int undo() {
        return past.goBack(now);
    }

    public int years(int seed, int n, int b) {
        if (n < 1 || n > MOST_SWAPS || !isBlock(b)) {
            return NONE;
        }
        if (now.rows == 0) {
            return -2;
        }
        // It is forgotten: the line is shuffled and toured, the table itself is left as it is.
        line.read(now);
        int r = seed;
        for (int k = 0; k < n; k++) {
            r = drawOn(r);
            int row = drawn(r, now.rows);
            r = drawOn(r);
            line.exchange(row, drawn(r, now.rows));
        }
        int ahead = line.runsOfLine();
        answers.tell(ahead, line.tourBlocks(b));
        return line.runsOfLine();
    }

    private static int drawOn(int r) {
        return r * 1103515245 + 12345;
    }

    private static int drawn(int r, int n) {
        return n > 0 ? (r >>> 16) % n : 0;
    }

    // ---- kept

    public boolean keep(int i) {
        if (i < 0 || i >= MOST_KEPT) {
            return false;
        }
        kept[i].become(now);
        isKept[i] = true;
        return true;
    }

    public boolean again(int i) {
        if (i < 0 || i >= MOST_KEPT || !isKept[i]) {
            return false;
        }
        now.become(kept[i]);
        past.forget();
        return true;
    }

    public int count(int what) {
        switch (what) {
            case 0:
                return now.columns;
            case 1:
                return now.rows;
            case 2:
                return now.properSet();
            case 3:
                return past.size;
            case 4:
                return answers.size;
            case 5:
                return text.size;
            case 6:
                return now.cellsOfNothing();
            default:
                return NONE;
        }
    }

    public long answer(int i) throws NoSuchElementException {
        if (i < 0 || i >= answers.size) {
            throw new NoSuchElementException("no such answer");
        }
        return answers.numbers[i];
    }

    /** What things of each kind are as numbers, and what they become in columns of other kinds. */
    private static final class Kinds {
        static final int YES_NO = 0;
        static final int BYTES = 1;
        static final int SIGNS = 2;
        static final int SHORTS = 3;
        static final int INTS = 4;
        static final int LONGS = 5;
        static final int FLOATS = 6;
        static final int DOUBLES = 7;
        static final int MAYBE_INTS = 8;
        static final int TEXTS = 9;
        static final int MARKS = 10;
        static final int MISSING = 11;

        static final long NOTHING = 0x8000000000000000L;
        /** What WAY 21 tells: no kind of a column. */
        static final int KIND_OF_NOTHING = 14;

        static final int THING_WAYS = 10;
        static final int MAYBE_INT_WAY = 18;
        static final int TEXT_WAY = 19;
        static final int MARK_WAY = 20;
        static final int NOTHING_WAY = 21;

        private static final String LETTERS = "zbcsijfdntoxyw";
        private static final int ALPHABET = 26;
        private static final int MOST_TIMES = 3;

        /** For each kind the kinds that it widens to, as bits. */
        private static final int[] WIDENINGS = {1, 250, 244, 248, 240, 224, 192, 128};

        static int ofLetter(char letter) {
            return LETTERS.indexOf(letter);
        }

        static boolean isNumberWay(int way) {
            return way >= 0 && way <= DOUBLES;
        }

        static boolean puts(int way) {
            return isNumberWay(way) || way >= THING_WAYS && way <= NOTHING_WAY;
        }

        static boolean takes(int way) {
            return isNumberWay(way) || way == THING_WAYS;
        }

        static boolean mayBeNothing(int kind) {
            return kind >= MAYBE_INTS && kind <= MARKS;
        }

        static boolean widens(int from, int to) {
            return isNumberWay(from) && isNumberWay(to) && (WIDENINGS[from] >> to & 1) != 0;
        }

        /** The kind of what a way tells. */
        static int toldKind(int way) {
            switch (way) {
                case MAYBE_INT_WAY:
                    return INTS;
                case TEXT_WAY:
                    return TEXTS;
                case MARK_WAY:
                    return MARKS;
                case NOTHING_WAY:
                    return KIND_OF_NOTHING;
                default:
                    return way >= THING_WAYS ? way - THING_WAYS : way;
            }
        }

        /** The number of what a way tells from v. */
        static long told(int way, int v) {
            switch (toldKind(way)) {
                case YES_NO:
                    return v & 1;
                case BYTES:
                    return (byte) v;
                case SIGNS:
                    return (char) v;
                case SHORTS:
                    return (short) v;
                case LONGS:
                    return v * 1000003L;
                case FLOATS:
                    return Bits.nearestFloat(v, 2);
                case DOUBLES:
                    return Bits.nearestDouble(v, 3);
                case TEXTS:
                    return textNumber(v & 0x7fffffff);
                case KIND_OF_NOTHING:
                    return NOTHING;
                default:
                    return v;
            }
        }

        private static long textNumber(int u) {
            return u % ALPHABET + ALPHABET * (u / ALPHABET % MOST_TIMES);
        }

        /** Whether what is of a kind can be put into a column. */
        static boolean fits(int told, int kind) {
            if (kind <= DOUBLES) {
                return widens(told, kind);
            }
            if (told == KIND_OF_NOTHING) {
                return true;
            }
            return kind == MAYBE_INTS ? told == INTS : told == kind;
        }

        /** The way by which a cell is put as the thing that it is. */
        static int ownWay(int kind, long number) {
            if (kind <= DOUBLES) {
                return THING_WAYS + kind;
            }
            if (number == NOTHING) {
                return NOTHING_WAY;
            }
            return kind == MAYBE_INTS ? THING_WAYS + INTS : kind == TEXTS ? TEXT_WAY : MARK_WAY;
        }

        /** What a number of one kind becomes in another one that it widens to. */
        static long widened(int from, int to, long number) {
            if (from == to || to != FLOATS && to != DOUBLES) {
                return number;
            }
            if (from == FLOATS) {
                return Bits.doubleOfFloat(number);
            }
            return to == FLOATS ? Bits.nearestFloat(number, 0) : Bits.nearestDouble(number, 0);
        }

        /** Numbers in the order of what cells of a kind are worth, for each unlike cell another one. */
        static long weight(int kind, long number) {
            if (mayBeNothing(kind) && number == NOTHING) {
                return NOTHING;
            }
            switch (kind) {
                case FLOATS:
                    return number < 0 ? number ^ 0x7fffffffL : number;
                case DOUBLES:
                    return number < 0 ? number ^ 0x7fffffffffffffffL : number;
                case TEXTS:
                    return number % ALPHABET * MOST_TIMES + number / ALPHABET;
                default:
                    return number;
            }
        }

        static boolean sameWorth(int kind, long number, int otherKind, long otherNumber) {
            int group = group(kind, number);
            if (group != group(otherKind, otherNumber)) {
                return false;
            }
            if (group == INTS) {
                return widened(kind, DOUBLES, number) == widened(otherKind, DOUBLES, otherNumber);
            }
            return number == otherNumber;
        }

        /** Kinds whose things can be the same: all numbers stand under INTS. */
        private static int group(int kind, long number) {
            if (mayBeNothing(kind) && number == NOTHING) {
                return KIND_OF_NOTHING;
            }
            return kind >= BYTES && kind <= MAYBE_INTS ? INTS : kind;
        }
    }

    /** Bits of floats and doubles, by whole numbers alone: the library that tells them is not at hand. */
    private static final class Bits {
        private static final int FLOAT_FRACTION = 23;
        private static final int FLOAT_BIAS = 127;
        private static final int DOUBLE_FRACTION = 52;
        private static final int DOUBLE_BIAS = 1023;
        /** A float's sign bit and, as its bits stand as an int, all above it. */
        private static final long FLOAT_SIGN = 0xffffffff80000000L;
        private static final long DOUBLE_SIGN = 0x8000000000000000L;

        /** The float nearest to whole, halved so many times. */
        static long nearestFloat(long whole, int halvings) {
            long bits = nearest(whole, halvings, FLOAT_FRACTION, FLOAT_BIAS);
            return whole < 0 ? bits | FLOAT_SIGN : bits;
        }

        static long nearestDouble(long whole, int halvings) {
            long bits = nearest(whole, halvings, DOUBLE_FRACTION, DOUBLE_BIAS);
            return whole < 0 ? bits | DOUBLE_SIGN : bits;
        }

        /** Each float but 0 that a cell can have is a normal one: at least a fourth. */
        static long doubleOfFloat(long number) {
            if (number == 0) {
                return 0;
            }
            long exponent = ((number >> FLOAT_FRACTION) & 255) + DOUBLE_BIAS - FLOAT_BIAS;
            long fraction = number & ((1L << FLOAT_FRACTION) - 1);
            long bits = (exponent << DOUBLE_FRACTION) | (fraction << (DOUBLE_FRACTION - FLOAT_FRACTION));
            return number < 0 ? bits | DOUBLE_SIGN : bits;
        }

        /** The bits but for that of the sign; halfway between two, the even one. */
        private static long nearest(long whole, int halvings, int fraction, int bias) {
            if (whole == 0) {
                return 0;
            }
            long size = whole < 0 ? -whole : whole;
            int top = 63 - Long.numberOfLeadingZeros(size);
            int spare = top - fraction;
            long digits = spare > 0 ? size >>> spare : size << -spare;
            if (spare > 0) {
                long rest = size & ((1L << spare) - 1);
                long half = 1L << (spare - 1);
                if (rest > half || rest == half && (digits & 1) == 1) {
                    digits++;
                }
            }
            // The first digit adds one to the exponent; so does what rounding carries over.
            return ((long) (top - halvings + bias - 1) << fraction) + digits;
        }
    }

    /** Columns, cells and tags: all that can be kept and undone. */
    private static final class Table {
        final int[] kinds = new int[MOST_COLUMNS];
        final int[] tags = new int[MOST_ROWS];
        final long[] cells = new long[MOST_COLUMNS * MOST_ROWS];
        int columns;
        int rows;

        void become(Table other) {
            System.arraycopy(other.kinds, 0, kinds, 0, MOST_COLUMNS);
            System.arraycopy(other.tags, 0, tags, 0, MOST_ROWS);
            System.arraycopy(other.cells, 0, cells, 0, MOST_COLUMNS * MOST_ROWS);
            columns = other.columns;
            rows = other.rows;
        }

        /** All anew, by a text that has been found right. */
        void begin(Signs text) {
            rows = text.twoDigitsAt(0);
            columns = text.size - 2;
            for (int column = 0; column < columns; column++) {
                kinds[column] = Kinds.ofLetter(text.signAt(column + 2));
                long first = Kinds.mayBeNothing(kinds[column]) ? Kinds.NOTHING : 0;
                for (int row = 0; row < MOST_ROWS; row++) {
                    cells[column * MOST_ROWS + row] = first;
                }
            }
            for (int row = 0; row < MOST_ROWS; row++) {
                tags[row] = row;
            }
        }

        boolean hasColumn(int column) {
            return column >= 0 && column < columns;
        }

        boolean hasRow(int row) {
            return row >= 0 && row < rows;
        }

        boolean isProper(int column) {
            return hasColumn(column) && kinds[column] <= Kinds.MARKS;
        }

        int properSet() {
            int set = 0;
            for (int column = 0; column < columns; column++) {
                if (isProper(column)) {
                    set |= 1 << column;
                }
            }
            return set;
        }

        long cell(int column, int row) {
            return cells[column * MOST_ROWS + row];
        }

        int whyUnasked(int column) {
            if (kinds[column] <= Kinds.MARKS) {
                return 0;
            }
            return kinds[column] == Kinds.MISSING ? 2 : 3;
        }

        int whyUnaskedOfBoth(int one, int other) {
            int why = whyUnasked(one);
            return why != 0 ? why : whyUnasked(other);
        }

        /** Why there is no cell for a way, ahead of whether the cell is of a fitting kind. */
        private int whyNoCell(int column, int row, int way) {
            int why = whyUnasked(column);
            if (why != 0) {
                return why;
            }
            if (Kinds.isNumberWay(way) && kinds[column] > Kinds.DOUBLES) {
                return 4;
            }
            return hasRow(row) ? 0 : 5;
        }

        int whyNotPut(int column, int row, int way) {
            int why = whyNoCell(column, row, way);
            if (why != 0) {
                return why;
            }
            return Kinds.fits(Kinds.toldKind(way), kinds[column]) ? 0 : 6;
        }

        int whyNotTaken(int column, int row, int way) {
            int why = whyNoCell(column, row, way);
            if (why != 0) {
                return why;
            }
            return way == Kinds.THING_WAYS || Kinds.widens(kinds[column], way) ? 0 : 6;
        }

        void store(int column, int row, int told, long number) {
            cells[column * MOST_ROWS + row] = Kinds.widened(told, kinds[column], number);
        }

        long taken(int column, int row, int way) {
            long number = cell(column, row);
            return way == Kinds.THING_WAYS ? number : Kinds.widened(kinds[column], way, number);
        }

        boolean copyCell(int from, int to, int row) {
            long number = cell(from, row);
            int way = Kinds.ownWay(kinds[from], number);
            if (whyNotPut(to, row, way) != 0) {
                return false;
            }
            store(to, row, Kinds.toldKind(way), number);
            return true;
        }

        boolean sameWorth(int one, int other, int row) {
            return Kinds.sameWorth(kinds[one], cell(one, row), kinds[other], cell(other, row));
        }

        boolean isLike(int column, int row, int other) {
            return cell(column, row) == cell(column, other);
        }

        boolean isLikeInAll(int set, int row, int other) {
            for (int column = 0; column < columns; column++) {
                if ((set >> column & 1) != 0 && isProper(column) && !isLike(column, row, other)) {
                    return false;
                }
            }
            return true;
        }

        int unlikeCells(int row, int other) {
            int unlike = 0;
            for (int column = 0; column < columns; column++) {
                if (isProper(column) && !isLike(column, row, other)) {
                    unlike++;
                }
            }
            return unlike;
        }

        boolean beginsRun(int column, int row) {
            return row == 0 || !isLike(column, row - 1, row);
        }

        int runsOf(int column) {
            int found = 0;
            for (int row = 0; row < rows; row++) {
                if (beginsRun(column, row)) {
                    found++;
                }
            }
            return found;
        }

        int runsOfAll() {
            int found = 0;
            for (int column = 0; column < columns; column++) {
                if (isProper(column)) {
                    found += runsOf(column);
                }
            }
            return found;
        }

        int cellsOfNothing() {
            int found = 0;
            for (int column = 0; column < columns; column++) {
                if (Kinds.mayBeNothing(kinds[column])) {
                    found += nothingIn(column);
                }
            }
            return found;
        }

        private int nothingIn(int column) {
            int found = 0;
            for (int row = 0; row < rows; row++) {
                if (cell(column, row) == Kinds.NOTHING) {
                    found++;
                }
            }
            return found;
        }
    }

    /** Tables as they were ahead of the latest calls, in a ring. */
    private static final class Past {
        /** One more than can be undone: what is noted must not cost the oldest before it is held. */
        private static final int SLOTS = MOST_UNDONE + 1;

        private final Table[] slots = new Table[SLOTS];
        private int next;
        int size;

        Past() {
            for (int i = 0; i < SLOTS; i++) {
                slots[i] = new Table();
            }
        }

        void note(Table table) {
            slots[next].become(table);
        }

        void hold() {
            next = (next + 1) % SLOTS;
            size = Math.min(size + 1, MOST_UNDONE);
        }

        int goBack(Table table) {
            if (size == 0) {
                return NONE;
            }
            next = (next + SLOTS - 1) % SLOTS;
            table.become(slots[next]);
            size--;
            return size;
        }

        void forget() {
            size = 0;
        }
    }

    /** THE TEXT. */
    private static final class Signs {
        private final char[] signs = new char[MOST_SIGNS];
        int size;

        boolean addFour(int v) {
            if (size + 4 > MOST_SIGNS) {
                return false;
            }
            for (int shift = 24; shift >= 0; shift -= 8) {
                signs[size] = (char) (v >>> shift & 255);
                size++;
            }
            return true;
        }

        boolean cut(int n) {
            if (n < 0 || n > size) {
                return false;
            }
            size = n;
            return true;
        }

        void clear() {
            size = 0;
        }

        char signAt(int p) {
            return p >= 0 && p < size ? signs[p] : (char) 0;
        }

        /** The digit at p, below 0 if there is none. */
        int digitAt(int p) {
            char sign = signAt(p);
            return sign >= '0' && sign <= '9' ? sign - '0' : NONE;
        }

        int twoDigitsAt(int p) {
            return 10 * digitAt(p) + digitAt(p + 1);
        }

        int letterAt(int p) {
            return signAt(p) - 'a';
        }
    }

    /** ROW OF ANSWERS. */
    private static final class Answers {
        final long[] numbers = new long[MOST_ANSWERS];
        int size;

        void clear() {
            size = 0;
        }

        void add(long number) {
            if (size < MOST_ANSWERS) {
                numbers[size] = number;
                size++;
            }
        }

        void tell(long one) {
            clear();
            add(one);
        }

        void tell(long one, long two) {
            tell(one);
            add(two);
        }

        void tell(long one, long two, long three) {
            tell(one, two);
            add(three);
        }
    }

    /** Ranks of cells and how many unlike cells columns have, of proper columns as they were read last. */
    private static final class Ranks {
        final int[] distinct = new int[MOST_COLUMNS];
        private final int[] ranks = new int[MOST_COLUMNS * MOST_ROWS];
        private final long[] weights = new long[MOST_ROWS];
        private final boolean[] isFirst = new boolean[MOST_ROWS];

        int of(int column, int row) {
            return ranks[column * MOST_ROWS + row];
        }

        void readAll(Table table) {
            for (int column = 0; column < table.columns; column++) {
                if (table.isProper(column)) {
                    readColumn(table, column);
                }
            }
        }

        void readColumn(Table table, int column) {
            for (int row = 0; row < table.rows; row++) {
                weights[row] = Kinds.weight(table.kinds[column], table.cell(column, row));
            }
            distinct[column] = 0;
            for (int row = 0; row < table.rows; row++) {
                isFirst[row] = isNew(row);
                if (isFirst[row]) {
                    distinct[column]++;
                }
            }
            for (int row = 0; row < table.rows; row++) {
                ranks[column * MOST_ROWS + row] = lesserOnes(row, table.rows);
            }
        }

        private boolean isNew(int row) {
            for (int other = 0; other < row; other++) {
                if (weights[other] == weights[row]) {
                    return false;
                }
            }
            return true;
        }

        private int lesserOnes(int row, int rows) {
            int found = 0;
            for (int other = 0; other < rows; other++) {
                if (isFirst[other] && weights[other] < weights[row]) {
                    found++;
                }
            }
            return found;
        }
    }

    /** Proper columns in an order. */
    private static final class ColumnOrder {
        final int[] columns = new int[MOST_COLUMNS];
        int size;

        void readProper(Table table) {
            size = 0;
            for (int column = 0; column < table.columns; column++) {
                addProper(table, column);
            }
        }

        /** The place of the sign that can't stand there, or NONE. */
        int readTold(Signs text, Table table) {
            size = 0;
            int told = 0;
            for (int p = 0; p < text.size; p++) {
                int column = text.letterAt(p);
                if (!table.hasColumn(column) || (told >> column & 1) != 0) {
                    return p;
                }
                told |= 1 << column;
                addProper(table, column);
            }
            for (int column = 0; column < table.columns; column++) {
                if ((told >> column & 1) == 0) {
                    addProper(table, column);
                }
            }
            return NONE;
        }

        private void addProper(Table table, int column) {
            if (table.isProper(column) && size < MOST_COLUMNS) {
                columns[size] = column;
                size++;
            }
        }

        void sortByFewest(Ranks ranks) {
            for (int k = 1; k < size; k++) {
                int column = columns[k];
                int at = k;
                while (at > 0 && ranks.distinct[columns[at - 1]] > ranks.distinct[column]) {
                    columns[at] = columns[at - 1];
                    at--;
                }
                columns[at] = column;
            }
        }

        /** To the next order, by the lesser column at the first unlike place: false behind the last. */
        boolean stepOn() {
            int turn = size - 2;
            while (turn >= 0 && columns[turn] > columns[turn + 1]) {
                turn--;
            }
            if (turn < 0) {
                return false;
            }
            int greater = size - 1;
            while (greater > turn && columns[greater] < columns[turn]) {
                greater--;
            }
            exchange(turn, greater);
            for (int low = turn + 1, high = size - 1; low < high; low++, high--) {
                exchange(low, high);
            }
            return true;
        }

        private void exchange(int one, int other) {
            int column = columns[one];
            columns[one] = columns[other];
            columns[other] = column;
        }
    }

    /** A line of rows that is tried before the table itself is arranged by it. */
    private static final class Line {
        private final int[] line = new int[MOST_ROWS];
        private final int[] before = new int[MOST_ROWS];
        private final int[] keys = new int[MOST_ROWS];
        private final int[] tags = new int[MOST_ROWS];
        private final long[] cells = new long[MOST_ROWS];
        private final int[] unlike = new int[MOST_ROWS * MOST_ROWS];
        private int rows;
        private int proper;

        /** The line is as rows of the table lie. */
        void read(Table table) {
            rows = table.rows;
            proper = Integer.bitCount(table.properSet());
            for (int row = 0; row < rows; row++) {
                line[row] = row;
                for (int other = 0; other < row; other++) {
                    int many = table.unlikeCells(row, other);
                    unlike[row * MOST_ROWS + other] = many;
                    unlike[other * MOST_ROWS + row] = many;
                }
            }
        }

        private int unlikeAt(int place, int other) {
            return unlike[line[place] * MOST_ROWS + line[other]];
        }

        /** The first row begins a run in each column, a later one in those in which it is unlike. */
        int runsOfLine() {
            int found = rows > 0 ? proper : 0;
            for (int place = 1; place < rows; place++) {
                found += unlikeAt(place - 1, place);
            }
            return found;
        }

        void exchange(int place, int other) {
            int row = line[place];
            line[place] = line[other];
            line[other] = row;
        }

        void shift(int from, int to) {
            int row = line[from];
            for (int place = from; place < to; place++) {
                line[place] = line[place + 1];
            }
            for (int place = from; place > to; place--) {
                line[place] = line[place - 1];
            }
            line[to] = row;
        }

        void followTags(Table table) {
            for (int place = 0; place < rows; place++) {
                for (int row = 0; row < rows; row++) {
                    if (table.tags[row] == place) {
                        line[place] = row;
                    }
                }
            }
        }

        void sortBy(ColumnOrder order, Ranks ranks, boolean reflected) {
            for (int row = 0; row < rows; row++) {
                int key = key(order, ranks, reflected, row);
                int place = row;
                while (place > 0 && keys[place - 1] > key) {
                    keys[place] = keys[place - 1];
                    line[place] = line[place - 1];
                    place--;
                }
                keys[place] = key;
                line[place] = row;
            }
        }

        /** Rows that are like up to a column turn the same way there, so one number tells their order. */
        private static int key(ColumnOrder order, Ranks ranks, boolean reflected, int row) {
            int key = 0;
            int sum = 0;
            for (int k = 0; k < order.size; k++) {
                int rank = ranks.of(order.columns[k], row);
                boolean turned = reflected && (sum & 1) == 1;
                key = key * MOST_ROWS + (turned ? MOST_ROWS - 1 - rank : rank);
                sum += rank;
            }
            return key;
        }

        /** How many blocks are another way then. */
        int tourBlocks(int b) {
            int changed = 0;
            for (int start = 0; start < rows; start += Math.max(1, b)) {
                if (tourBlock(start, Math.min(start + b, rows))) {
                    changed++;
                }
            }
            return changed;
        }

        private boolean tourBlock(int start, int stop) {
            int ahead = runsOfLine();
            System.arraycopy(line, start, before, start, stop - start);
            for (int place = start + 1; place < stop; place++) {
                shift(mostAlike(place, stop), place);
            }
            if (runsOfLine() < ahead) {
                return true;
            }
            System.arraycopy(before, start, line, start, stop - start);
            return false;
        }

        private int mostAlike(int place, int stop) {
            int found = place;
            for (int other = place + 1; other < stop; other++) {
                if (unlikeAt(place - 1, other) < unlikeAt(place - 1, found)) {
                    found = other;
                }
            }
            return found;
        }

        /** Rows of the table lie as in the line: how many have another place than before. */
        int carryOut(Table table) {
            for (int column = 0; column < table.columns; column++) {
                int from = column * MOST_ROWS;
                for (int place = 0; place < rows; place++) {
                    cells[place] = table.cells[from + line[place]];
                }
                System.arraycopy(cells, 0, table.cells, from, rows);
            }
            int moved = 0;
            for (int place = 0; place < rows; place++) {
                tags[place] = table.tags[line[place]];
                if (line[place] != place) {
                    moved++;
                }
            }
            System.arraycopy(tags, 0, table.tags, 0, rows);
            return moved;
        }
    }
}
