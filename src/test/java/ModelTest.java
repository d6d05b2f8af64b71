import java.lang.reflect.Array;
import java.util.ArrayDeque;
import java.util.ArrayList;
import java.util.Arrays;
import java.util.Collections;
import java.util.Comparator;
import java.util.Deque;
import java.util.HashSet;
import java.util.List;
import java.util.NoSuchElementException;
import java.util.Random;
import java.util.Set;

/** Drawn runs of calls, each answer against a plain model whose columns are real Java arrays. */
public final class ModelTest {
    private static final int RUNS = 200;
    private static final int CALLS = 500;
    private static final int MOST_SECONDS = 300;

    public static void main(String[] args) {
        Watch.begin(MOST_SECONDS);
        int[] fine = new int[40];
        for (int run = 0; run < RUNS; run++) {
            Driver driver = new Driver(run, fine);
            for (int k = 0; k < CALLS && driver.fault == null; k++) {
                driver.step();
            }
            if (driver.fault != null) {
                System.out.println("run " + run + ": " + driver.fault);
                System.out.println(String.join("\n", driver.calls));
                System.exit(1);
            }
        }
        for (int call = 0; call < Driver.NAMES.length; call++) {
            if (fine[call] < 100) {
                System.out.println(Driver.NAMES[call] + " was answered with 0 or more only " + fine[call] + " times");
                System.exit(1);
            }
        }
        System.out.println(RUNS + " drawn runs are as the model's");
    }

    private static final class Mark {
        final int number;

        Mark(int number) {
            this.number = number;
        }
    }

    private static final Class<?>[] TYPES = {boolean.class, byte.class, char.class, short.class, int.class, long.class,
        float.class, double.class, Integer.class, String.class, Mark.class};
    private static final String LETTERS = "zbcsijfdntoxyw";

    /** Columns: an array, null (missing), or a lone Mark or String. */
    private static final class State {
        final List<Object> columns = new ArrayList<>();
        List<Integer> tags = new ArrayList<>();
        int rows;

        State copy() {
            State copy = new State();
            for (Object column : columns) {
                copy.columns.add(isProper(column) ? copied(column) : column);
            }
            copy.tags = new ArrayList<>(tags);
            copy.rows = rows;
            return copy;
        }

        private Object copied(Object column) {
            Object copy = Array.newInstance(column.getClass().getComponentType(), rows);
            System.arraycopy(column, 0, copy, 0, rows);
            return copy;
        }

        static boolean isProper(Object column) {
            return column != null && column.getClass().isArray();
        }

        static int kindOf(Object column) {
            if (column == null) {
                return 11;
            }
            if (column instanceof Mark) {
                return 12;
            }
            if (column instanceof String) {
                return 13;
            }
            return Arrays.asList(TYPES).indexOf(column.getClass().getComponentType());
        }

        List<Object> proper() {
            List<Object> found = new ArrayList<>();
            for (Object column : columns) {
                if (isProper(column)) {
                    found.add(column);
                }
            }
            return found;
        }

        int runs(Object column) {
            int found = 0;
            for (int row = 0; row < rows; row++) {
                if (row == 0 || !like(column, row, row - 1)) {
                    found++;
                }
            }
            return found;
        }

        int runs() {
            int found = 0;
            for (Object column : proper()) {
                found += runs(column);
            }
            return found;
        }

        boolean like(Object column, int row, int other) {
            return number(Array.get(column, row)) == number(Array.get(column, other));
        }

        int unlike(int row, int other) {
            int found = 0;
            for (Object column : proper()) {
                found += like(column, row, other) ? 0 : 1;
            }
            return found;
        }

        int distinct(Object column) {
            Set<Long> numbers = new HashSet<>();
            for (int row = 0; row < rows; row++) {
                numbers.add(number(Array.get(column, row)));
            }
            return numbers.size();
        }

        int rank(Object column, int row) {
            Set<Long> lesser = new HashSet<>();
            for (int other = 0; other < rows; other++) {
                if (compare(Array.get(column, other), Array.get(column, row)) < 0) {
                    lesser.add(number(Array.get(column, other)));
                }
            }
            return lesser.size();
        }

        int arrange(List<Integer> line) {
            for (int k = 0; k < columns.size(); k++) {
                if (isProper(columns.get(k))) {
                    Object from = copied(columns.get(k));
                    for (int place = 0; place < rows; place++) {
                        Array.set(columns.get(k), place, Array.get(from, line.get(place)));
                    }
                }
            }
            List<Integer> from = new ArrayList<>(tags);
            int moved = 0;
            for (int place = 0; place < rows; place++) {
                tags.set(place, from.get(line.get(place)));
                moved += line.get(place) == place ? 0 : 1;
            }
            return moved;
        }

        List<Integer> asTheyLie() {
            List<Integer> line = new ArrayList<>();
            for (int row = 0; row < rows; row++) {
                line.add(row);
            }
            return line;
        }

        State arranged(List<Integer> line) {
            State other = copy();
            other.arrange(line);
            return other;
        }
    }

    static long number(Object thing) {
        if (thing == null) {
            return Long.MIN_VALUE;
        }
        if (thing instanceof Boolean) {
            return (Boolean) thing ? 1 : 0;
        }
        if (thing instanceof Character) {
            return (Character) thing;
        }
        if (thing instanceof Float) {
            return Float.floatToRawIntBits((Float) thing);
        }
        if (thing instanceof Double) {
            return Double.doubleToRawLongBits((Double) thing);
        }
        if (thing instanceof String) {
            return ((String) thing).charAt(0) - 'a' + 26 * (((String) thing).length() - 1);
        }
        if (thing instanceof Mark) {
            return ((Mark) thing).number;
        }
        return ((Number) thing).longValue();
    }

    static int compare(Object one, Object other) {
        if (one == null || other == null) {
            return (one == null ? 0 : 1) - (other == null ? 0 : 1);
        }
        if (one instanceof Mark) {
            return Integer.compare(((Mark) one).number, ((Mark) other).number);
        }
        if (one instanceof String) {
            return ((String) one).compareTo((String) other);
        }
        if (one instanceof Boolean) {
            return ((Boolean) one).compareTo((Boolean) other);
        }
        if (one instanceof Character) {
            return ((Character) one).compareTo((Character) other);
        }
        return Double.compare(((Number) one).doubleValue(), ((Number) other).doubleValue());
    }

    static boolean sameWorth(Object one, Object other) {
        if (one == null || other == null) {
            return one == other;
        }
        Object a = one instanceof Character ? (Object) (int) (Character) one : one;
        Object b = other instanceof Character ? (Object) (int) (Character) other : other;
        if (a instanceof Number && b instanceof Number) {
            return ((Number) a).doubleValue() == ((Number) b).doubleValue();
        }
        return a.getClass() == b.getClass() && number(a) == number(b);
    }

    /** The model of an object: each call answers and, if it tells of them, leaves ANSWERS anew. */
    private static final class Model {
        State now = new State();
        final Deque<State> past = new ArrayDeque<>();
        final State[] kept = new State[2];
        String text = "";
        List<Long> answers = new ArrayList<>();

        private void tell(long... numbers) {
            answers = new ArrayList<>();
            for (long number : numbers) {
                answers.add(number);
            }
        }

        private void push(State ahead) {
            past.addLast(ahead);
            if (past.size() > 8) {
                past.removeFirst();
            }
        }

        private String read() {
            String was = text;
            text = "";
            return was;
        }

        private boolean noColumn(int column) {
            return column < 0 || column >= now.columns.size();
        }

        private boolean noRow(int row) {
            return row < 0 || row >= now.rows;
        }

        private Object column(int column) {
            return now.columns.get(column);
        }

        int sign(int v) {
            if (text.length() > 76) {
                return -1;
            }
            text += "" + (char) (v >> 24 & 255) + (char) (v >> 16 & 255) + (char) (v >> 8 & 255) + (char) (v & 255);
            return text.length();
        }

        boolean end(int n) {
            if (n < 0 || n > text.length()) {
                return false;
            }
            text = text.substring(0, n);
            return true;
        }

        int table() {
            String told = read();
            String right = "(0[0-9]|1[0-6])[zbcsijfdntoxyw]{0,6}";
            if (!told.matches(right)) {
                if (told.matches("[0-9].?")) {
                    return -2;
                }
                int p = 0;
                while (p < told.length() && (told.substring(0, p + 1) + "0".repeat(Math.max(0, 1 - p))).matches(p < 1 ? "[0-9]0" : right)) {
                    p++;
                }
                return -1 - p;
            }
            push(now);
            now = new State();
            now.rows = Integer.parseInt(told.substring(0, 2));
            now.tags = now.asTheyLie();
            for (char letter : told.substring(2).toCharArray()) {
                int kind = LETTERS.indexOf(letter);
                now.columns.add(kind < 11 ? Array.newInstance(TYPES[kind], now.rows)
                        : kind == 11 ? null : kind == 12 ? (Object) new Mark(0) : (Object) "lone");
            }
            return now.columns.size();
        }

        private static boolean isPutWay(int way) {
            return way >= 0 && way < 8 || way >= 10 && way < 22;
        }

        static Object told(int way, int v) {
            switch (way < 8 ? way + 10 : way) {
                case 10:
                    return v % 2 != 0;
                case 11:
                    return (byte) v;
                case 12:
                    return (char) v;
                case 13:
                    return (short) v;
                case 15:
                    return (long) v * 1000003L;
                case 16:
                    return (float) v / 4;
                case 17:
                    return (double) v / 8;
                case 19:
                    int u = v & 0x7fffffff;
                    return String.valueOf((char) ('a' + u % 26)).repeat(1 + u / 26 % 3);
                case 20:
                    return new Mark(v);
                case 21:
                    return null;
                default:
                    return v;
            }
        }

        private int whyUnasked(Object column) {
            return column == null ? 2 : column.getClass().isArray() ? 0 : 3;
        }

        private int whyNoCell(Object column, int row, int way) {
            if (whyUnasked(column) != 0) {
                return whyUnasked(column);
            }
            if (way < 8 && column instanceof Object[]) {
                return 4;
            }
            return noRow(row) ? 5 : 0;
        }

        private int store(Object column, int row, int way, Object thing) {
            int why = whyNoCell(column, row, way);
            if (why != 0) {
                return why;
            }
            try {
                Array.set(column, row, thing);
                return 0;
            } catch (IllegalArgumentException | NullPointerException e) {
                return 6;
            }
        }

        private static Object takenBy(Object column, int row, int way) {
            switch (way) {
                case 0:
                    return Array.getBoolean(column, row);
                case 1:
                    return Array.getByte(column, row);
                case 2:
                    return Array.getChar(column, row);
                case 3:
                    return Array.getShort(column, row);
                case 4:
                    return Array.getInt(column, row);
                case 5:
                    return Array.getLong(column, row);
                case 6:
                    return Array.getFloat(column, row);
                case 7:
                    return Array.getDouble(column, row);
                default:
                    return Array.get(column, row);
            }
        }

        private int whyNotTaken(Object column, int row, int way) {
            int why = whyNoCell(column, row, way);
            if (why != 0) {
                return why;
            }
            try {
                takenBy(column, row, way);
                return 0;
            } catch (IllegalArgumentException e) {
                return 6;
            }
        }

        int sheet(int column, int way, int kind, int n, int f, int step) {
            if (noColumn(column) || !isPutWay(way) || kind < 0 || kind > 3 || n > 16) {
                return -1;
            }
            if (kind == 3 || n < 0) {
                return kind == 3 ? -3 : -2;
            }
            int done = 0;
            int v = f;
            for (int k = 0; k < n; k++) {
                int entry = kind == 0 ? (byte) v : kind == 1 ? (short) v : v;
                done += store(column(column), k, way, told(way, entry)) == 0 ? 1 : 0;
                v += step;
            }
            return done;
        }

        int putOne(int column, int row, int way, int v) {
            return noColumn(column) || !isPutWay(way) ? -1 : -store(column(column), row, way, told(way, v));
        }

        int put(int column, int row, int way, int v) {
            State ahead = now.copy();
            int done = putOne(column, row, way, v);
            if (done == 0) {
                push(ahead);
            }
            return done;
        }

        int take(int column, int row, int way) {
            if (noColumn(column) || way < 0 || way > 7 && way != 10) {
                return -1;
            }
            int why = whyNotTaken(column(column), row, way);
            if (why == 0) {
                tell(number(takenBy(column(column), row, way)));
            }
            return -why;
        }

        int length(int column) {
            return noColumn(column) ? -1 : whyUnasked(column(column)) != 0 ? -whyUnasked(column(column)) : Array.getLength(column(column));
        }

        int kind(int column) {
            return noColumn(column) ? -1 : State.kindOf(column(column));
        }

        int copies(int from, int to) {
            if (noColumn(from) || noColumn(to) || from == to) {
                return -1;
            }
            for (int column : new int[] {from, to}) {
                if (whyUnasked(column(column)) != 0) {
                    return -whyUnasked(column(column));
                }
            }
            push(now.copy());
            int left = 0;
            for (int row = 0; row < now.rows; row++) {
                if (store(column(to), row, 10, Array.get(column(from), row)) != 0) {
                    left += 1 << row;
                }
            }
            tell(left);
            return now.rows - Integer.bitCount(left);
        }

        int carries(int from, int row, int to, int other, int way) {
            if (noColumn(from) || noColumn(to) || way < 0 || way > 7) {
                return -1;
            }
            int why = whyNotTaken(column(from), row, way);
            if (why != 0) {
                return -why;
            }
            State ahead = now.copy();
            why = store(column(to), other, way, takenBy(column(from), row, way));
            if (why != 0) {
                return -10 - why;
            }
            push(ahead);
            return 0;
        }

        int ways(int column) {
            if (noColumn(column)) {
                return -1;
            }
            State ahead = now.copy();
            int takes = 0;
            int puts = 0;
            for (int way = 0; way < 8; way++) {
                takes += whyNotTaken(column(column), 0, way) == 0 ? 1 << way : 0;
                puts += store(column(column), 0, way, told(way, 1)) == 0 ? 1 << way : 0;
            }
            now = ahead;
            tell(puts);
            return takes;
        }

        int same(int one, int other) {
            if (noColumn(one) || noColumn(other)) {
                return -1;
            }
            for (int column : new int[] {one, other}) {
                if (whyUnasked(column(column)) != 0) {
                    return -whyUnasked(column(column));
                }
            }
            int found = 0;
            int first = -1;
            for (int row = now.rows - 1; row >= 0; row--) {
                if (sameWorth(Array.get(column(one), row), Array.get(column(other), row))) {
                    found++;
                } else {
                    first = row;
                }
            }
            tell(first);
            return found;
        }

        int runs(int column) {
            if (noColumn(column) || !State.isProper(column(column))) {
                return noColumn(column) ? -1 : -2;
            }
            int longest = 0;
            int first = -1;
            for (int start = 0; start < now.rows; start++) {
                int stop = start;
                while (stop < now.rows && now.like(column(column), start, stop)) {
                    stop++;
                }
                if (stop - start > longest) {
                    longest = stop - start;
                    first = start;
                }
            }
            tell(now.distinct(column(column)), longest, first);
            return now.runs(column(column));
        }

        private int properBits() {
            int bits = 0;
            for (int k = 0; k < now.columns.size(); k++) {
                bits |= State.isProper(column(k)) ? 1 << k : 0;
            }
            return bits;
        }

        int all() {
            tell(properBits(), now.proper().size() * now.rows);
            return now.runs();
        }

        int unlike(int row, int other) {
            return noRow(row) || noRow(other) ? -1 : now.unlike(row, other);
        }

        int rank(int column, int row) {
            if (noColumn(column) || noRow(row)) {
                return -1;
            }
            if (!State.isProper(column(column))) {
                return -2;
            }
            int like = 0;
            for (int other = 0; other < now.rows; other++) {
                like += now.like(column(column), row, other) ? 1 : 0;
            }
            tell(like);
            return now.rank(column(column), row);
        }

        int least() {
            int sum = 0;
            for (Object column : now.proper()) {
                sum += now.distinct(column);
            }
            tell(now.runs() - sum);
            return sum;
        }

        private int wrongInOrder(String told) {
            for (int p = 0; p < told.length(); p++) {
                if (noColumn(told.charAt(p) - 'a') || told.indexOf(told.charAt(p)) < p) {
                    return p;
                }
            }
            return -1;
        }

        private List<Object> ordered(String told) {
            List<Object> order = new ArrayList<>();
            for (char letter : (told + "abcdef").toCharArray()) {
                int k = letter - 'a';
                boolean isNew = k < now.columns.size() && State.isProper(column(k));
                for (Object column : order) {
                    isNew &= column != (k < now.columns.size() ? column(k) : null);
                }
                if (isNew) {
                    order.add(column(k));
                }
            }
            return order;
        }

        int bound() {
            String told = read();
            if (wrongInOrder(told) >= 0) {
                return -1 - wrongInOrder(told);
            }
            long product = 1;
            long sum = 0;
            for (Object column : ordered(told)) {
                product *= now.distinct(column);
                sum += Math.min(product, now.rows);
            }
            return (int) sum;
        }

        int coded(int column) {
            if (noColumn(column) || !State.isProper(column(column))) {
                return noColumn(column) ? -1 : -2;
            }
            tell();
            for (int row = 0; row < now.rows; row++) {
                if (row > 0 && now.like(column(column), row, row - 1)) {
                    answers.set(answers.size() - 1, answers.get(answers.size() - 1) + 1);
                } else {
                    answers.add(number(Array.get(column(column), row)));
                    answers.add(1L);
                }
            }
            return answers.size() / 2;
        }

        int alike(int row, int set) {
            if (noRow(row) || set < 0 || set > 63) {
                return -1;
            }
            int found = 0;
            for (int other = 0; other < now.rows; other++) {
                boolean all = true;
                for (int k = 0; k < now.columns.size(); k++) {
                    all &= (set & 1 << k) == 0 || !State.isProper(column(k)) || now.like(column(k), row, other);
                }
                found |= all ? 1 << other : 0;
            }
            tell(found);
            return Integer.bitCount(found);
        }

        private List<Integer> sorted(List<Object> order, boolean reflected) {
            List<Integer> line = now.asTheyLie();
            Comparator<Integer> comparator = (one, other) -> {
                int ranks = 0;
                for (Object column : order) {
                    int compared = compare(Array.get(column, one), Array.get(column, other));
                    if (compared != 0) {
                        return reflected && ranks % 2 != 0 ? -compared : compared;
                    }
                    ranks += now.rank(column, one);
                }
                return 0;
            };
            Collections.sort(line, comparator);
            return line;
        }

        int sorts(boolean reflected) {
            String told = read();
            if (wrongInOrder(told) >= 0) {
                return -1 - wrongInOrder(told);
            }
            push(now.copy());
            int ahead = now.runs();
            int moved = now.arrange(sorted(ordered(told), reflected));
            tell(ahead, now.runs());
            return moved;
        }

        int fewest() {
            List<Object> order = ordered("");
            order.sort(Comparator.comparingInt(now::distinct));
            tellOrder(order);
            return order.size();
        }

        private void tellOrder(List<Object> order) {
            tell();
            for (Object column : order) {
                for (int k = 0; k < now.columns.size(); k++) {
                    if (column(k) == column) {
                        answers.add((long) k);
                    }
                }
            }
        }

        private int leastRuns;
        private List<Object> leastOrder;

        int best(boolean reflected) {
            List<Object> order = ordered("");
            if (order.isEmpty() || order.size() == 6) {
                return -2;
            }
            leastRuns = Integer.MAX_VALUE;
            tryAll(new ArrayList<>(), order, reflected);
            tellOrder(leastOrder);
            return leastRuns;
        }

        private void tryAll(List<Object> begun, List<Object> left, boolean reflected) {
            if (left.isEmpty()) {
                int runs = now.arranged(sorted(begun, reflected)).runs();
                if (runs < leastRuns) {
                    leastRuns = runs;
                    leastOrder = new ArrayList<>(begun);
                }
            }
            for (int k = 0; k < left.size(); k++) {
                List<Object> further = new ArrayList<>(begun);
                List<Object> rest = new ArrayList<>(left);
                further.add(rest.remove(k));
                tryAll(further, rest, reflected);
            }
        }

        int tourOnce(int b) {
            if (b < 2 || b > 16) {
                return -1;
            }
            int changed = 0;
            for (int start = 0; start < now.rows; start += b) {
                List<Integer> line = now.asTheyLie();
                List<Integer> left = new ArrayList<>(line.subList(start, Math.min(now.rows, start + b)));
                List<Integer> tour = new ArrayList<>();
                tour.add(left.remove(0));
                while (!left.isEmpty()) {
                    int last = tour.get(tour.size() - 1);
                    int next = Collections.min(left, Comparator.comparingInt(row -> now.unlike(last, row)));
                    tour.add(next);
                    left.remove(Integer.valueOf(next));
                }
                for (int k = 0; k < tour.size(); k++) {
                    line.set(start + k, tour.get(k));
                }
                State other = now.arranged(line);
                if (other.runs() < now.runs()) {
                    now = other;
                    changed++;
                }
            }
            return changed;
        }

        int tours(int b) {
            State ahead = now.copy();
            int changed = tourOnce(b);
            if (changed >= 0) {
                push(ahead);
                tell(now.runs());
            }
            return changed;
        }

        private int arrangeTwo(int row, int other, boolean swap) {
            if (noRow(row) || noRow(other) || row == other) {
                return noRow(row) || noRow(other) ? -1 : -2;
            }
            int ahead = now.runs();
            now.arrange(lineOf(row, other, swap));
            return 1000 + ahead - now.runs();
        }

        private List<Integer> lineOf(int row, int other, boolean swap) {
            List<Integer> line = now.asTheyLie();
            if (swap) {
                Collections.swap(line, row, other);
            } else {
                line.add(other, line.remove(row));
            }
            return line;
        }

        private int pushedIfDone(State ahead, int done) {
            if (done >= 0) {
                push(ahead);
            }
            return done;
        }

        int swaps(int row, int other) {
            return pushedIfDone(now.copy(), arrangeTwo(row, other, true));
        }

        int moves(int row, int to) {
            return pushedIfDone(now.copy(), arrangeTwo(row, to, false));
        }

        int bestSwap() {
            int most = 0;
            for (int row = 0; row < now.rows; row++) {
                for (int other = row + 1; other < now.rows; other++) {
                    int taken = now.runs() - now.arranged(lineOf(row, other, true)).runs();
                    if (taken > most) {
                        most = taken;
                        tell(row, other);
                    }
                }
            }
            return most == 0 ? -2 : most;
        }

        int place(int row) {
            if (noRow(row)) {
                return -1;
            }
            int found = -1;
            int fewest = Integer.MAX_VALUE;
            for (int to = 0; to < now.rows; to++) {
                int runs = now.arranged(lineOf(row, to, false)).runs();
                if (runs < fewest) {
                    fewest = runs;
                    found = to;
                }
            }
            tell(fewest);
            return found;
        }

        private int restoreOnce() {
            List<Integer> line = now.asTheyLie();
            line.sort(Comparator.comparing(row -> now.tags.get(row)));
            return now.arrange(line);
        }

        int restores() {
            return pushedIfDone(now.copy(), restoreOnce());
        }

        int tagged(int tag) {
            return now.tags.indexOf(tag);
        }

        int day() {
            String told = read();
            List<String> acts = new ArrayList<>();
            String left = told;
            while (!left.isEmpty()) {
                String act = left.replaceFirst("(?s)^([sm]\\d{4}|t\\d\\d|r|p[a-f]\\d{6}).*$", "$1");
                if (!act.matches("[sm]\\d{4}|t\\d\\d|r|p[a-f]\\d{6}")) {
                    return -1 - (told.length() - left.length()) - goodPart(left);
                }
                acts.add(act);
                left = left.substring(act.length());
            }
            State ahead = now.copy();
            int done = 0;
            for (String act : acts) {
                if (doAct(act) < 0) {
                    break;
                }
                done++;
            }
            if (done > 0) {
                push(ahead);
            }
            tell(done < acts.size() ? 1 : 0, now.runs());
            return done;
        }

        private static int goodPart(String left) {
            for (int n = Math.min(8, left.length()); n > 0; n--) {
                if (left.substring(0, n).matches("(?s)[sm]\\d{0,4}|t\\d{0,2}|p([a-f]\\d{0,6})?")) {
                    return n;
                }
            }
            return 0;
        }

        private int doAct(String act) {
            switch (act.charAt(0)) {
                case 's':
                case 'm':
                    return arrangeTwo(two(act, 1), two(act, 3), act.charAt(0) == 's');
                case 't':
                    return tourOnce(two(act, 1));
                case 'r':
                    return restoreOnce();
                default:
                    return putOne(act.charAt(1) - 'a', two(act, 2), two(act, 4), two(act, 6));
            }
        }

        private static int two(String act, int p) {
            return Integer.parseInt(act.substring(p, p + 2));
        }

        int undo() {
            if (past.isEmpty()) {
                return -1;
            }
            now = past.removeLast();
            return past.size();
        }

        private int drawn;

        private int draw(int n) {
            drawn = drawn * 1103515245 + 12345;
            return (int) (Integer.toUnsignedLong(drawn) / 65536 % n);
        }

        int years(int seed, int n, int b) {
            if (n < 1 || n > 20 || b < 2 || b > 16 || now.rows == 0) {
                return n < 1 || n > 20 || b < 2 || b > 16 ? -1 : -2;
            }
            State forgotten = now;
            now = now.copy();
            drawn = seed;
            for (int k = 0; k < n; k++) {
                int row = draw(now.rows);
                arrangeTwo(row, draw(now.rows), true);
            }
            int ahead = now.runs();
            int changed = tourOnce(b);
            tell(ahead, changed);
            int then = now.runs();
            now = forgotten;
            return then;
        }

        boolean keep(int i) {
            if (i < 0 || i > 1) {
                return false;
            }
            kept[i] = now.copy();
            return true;
        }

        boolean again(int i) {
            if (i < 0 || i > 1 || kept[i] == null) {
                return false;
            }
            now = kept[i].copy();
            past.clear();
            return true;
        }

        int count(int what) {
            int nothing = 0;
            for (Object column : now.proper()) {
                for (int row = 0; row < now.rows; row++) {
                    nothing += Array.get(column, row) == null ? 1 : 0;
                }
            }
            int[] counts = {now.columns.size(), now.rows, properBits(), past.size(), answers.size(), text.length(), nothing};
            return what < 0 || what > 6 ? -1 : counts[what];
        }
    }

    /** Draws calls, does them on both, and looks at what they answered. */
    private static final class Driver {
        static final String[] NAMES = {"sign", "end", "table", "sheet", "put", "take", "length", "kind", "copies", "carries",
            "ways", "same", "runs", "all", "unlike", "rank", "least", "bound", "coded", "alike", "sorts", "fewest", "best",
            "tours", "swaps", "moves", "bestSwap", "place", "restores", "tagged", "day", "undo", "years", "keep", "again", "count"};

        private final Random random;
        private final LongRuns real = new LongRuns();
        private final Model model = new Model();
        private final int spread;
        private final int[] fine;
        final List<String> calls = new ArrayList<>();
        String fault;

        Driver(int seed, int[] fine) {
            random = new Random(seed);
            spread = new int[] {2, 3, 6, 1000}[random.nextInt(4)];
            this.fine = fine;
        }

        private int draw(int n) {
            return random.nextInt(n);
        }

        private boolean oneIn(int n) {
            return random.nextInt(n) == 0;
        }

        private int column() {
            return oneIn(30) ? draw(10) - 2 : draw(Math.max(1, model.now.columns.size()));
        }

        private int row() {
            return oneIn(30) ? draw(22) - 3 : draw(Math.max(1, model.now.rows));
        }

        private int way(int column) {
            if (oneIn(4) || column < 0 || column >= model.now.columns.size()) {
                return draw(25) - 1;
            }
            int kind = State.kindOf(model.now.columns.get(column));
            return kind < 8 ? kind + (oneIn(2) ? 10 : 0) : oneIn(4) ? 21 : kind + 10;
        }

        private int value() {
            return oneIn(20) ? random.nextInt() : oneIn(10) ? -draw(spread) : draw(spread) * (oneIn(6) ? 26 : 1);
        }

        private void write(String text) {
            if (oneIn(3)) {
                check("end(0)", real.end(0) ? 1 : 0, model.end(0) ? 1 : 0);
            }
            for (int p = 0; p < text.length(); p += 4) {
                int v = 0;
                for (int k = p; k < p + 4; k++) {
                    v = v * 256 + (k < text.length() ? text.charAt(k) : draw(256));
                }
                check("sign(" + v + ")", real.sign(v), model.sign(v));
            }
            int surplus = (4 - text.length() % 4) % 4;
            int n = Math.max(0, model.text.length() - (oneIn(40) ? draw(4) : surplus));
            check("end(" + n + ")", real.end(n) ? 1 : 0, model.end(n) ? 1 : 0);
        }

        private String tableText() {
            StringBuilder text = new StringBuilder();
            int rows = oneIn(20) ? draw(100) : draw(17);
            text.append(rows / 10).append(rows % 10);
            int columns = oneIn(20) ? draw(9) : 1 + draw(6);
            for (int k = 0; k < columns; k++) {
                text.append(oneIn(60) ? (char) draw(256) : LETTERS.charAt(oneIn(6) ? draw(14) : draw(11)));
            }
            return oneIn(30) ? text.substring(0, draw(text.length())) : text.toString();
        }

        private String orderText() {
            List<Character> letters = new ArrayList<>();
            for (int k = 0; k < model.now.columns.size(); k++) {
                letters.add((char) ('a' + k));
            }
            Collections.shuffle(letters, random);
            StringBuilder text = new StringBuilder();
            for (int k = 0; k < letters.size() && !oneIn(4); k++) {
                text.append(letters.get(k));
            }
            return oneIn(15) ? text.append((char) ('`' + draw(8))).toString() : text.toString();
        }

        private String twoDigits(int n) {
            return "" + Math.abs(n) / 10 % 10 + Math.abs(n) % 10;
        }

        private String dayText() {
            StringBuilder text = new StringBuilder();
            for (int k = draw(6); k > 0; k--) {
                switch (draw(5)) {
                    case 0:
                        text.append('s').append(twoDigits(row())).append(twoDigits(row()));
                        break;
                    case 1:
                        text.append('m').append(twoDigits(row())).append(twoDigits(row()));
                        break;
                    case 2:
                        text.append('t').append(twoDigits(oneIn(10) ? draw(20) : 2 + draw(6)));
                        break;
                    case 3:
                        text.append('r');
                        break;
                    default:
                        int column = Math.abs(column()) % 6;
                        text.append('p').append((char) ('a' + column)).append(twoDigits(row()));
                        text.append(twoDigits(way(column))).append(twoDigits(value()));
                }
            }
            if (oneIn(10) && text.length() > 0) {
                text.setCharAt(draw(text.length()), (char) (oneIn(2) ? draw(256) : "smtrpag09/:`".charAt(draw(12))));
            }
            return oneIn(15) && text.length() > 0 ? text.substring(0, draw(text.length())) : text.toString();
        }

        private void check(String call, long got, long want) {
            calls.add(call + " = " + got);
            if (fault == null && got != want) {
                fault = call + " answered " + got + ", the model " + want;
            }
            int name = Arrays.asList(NAMES).indexOf(call.substring(0, call.indexOf('(')));
            fine[name] += got >= 0 && (got > 0 || !call.matches("(end|keep|again).*")) ? 1 : 0;
        }

        void step() {
            if (model.now.columns.isEmpty() && !oneIn(5) || oneIn(40)) {
                write(tableText());
                check("table()", real.table(), model.table());
                for (int k = 0; k < model.now.columns.size(); k++) {
                    fill(k);
                }
            } else if (oneIn(2)) {
                cells();
            } else {
                arranged();
            }
            compareAll();
        }

        private void fill(int column) {
            for (int row = 0; row < model.now.rows; row++) {
                int way = way(column);
                int v = value();
                check("sheet(..)", real.sheet(column, way, draw(1), 0, 0, 0), model.sheet(column, way, 0, 0, 0, 0));
                check("put(" + column + ", " + row + ", " + way + ", " + v + ")",
                        real.put(column, row, way, v), model.put(column, row, way, v));
            }
        }

        private void cells() {
            int a = column();
            int b = column();
            int row = row();
            int other = row();
            int way = way(a);
            int v = value();
            switch (draw(14)) {
                case 0:
                    int kind = oneIn(10) ? draw(7) - 2 : draw(3);
                    int n = oneIn(10) ? draw(30) - 8 : draw(17);
                    int step = value();
                    check("sheet(" + a + ", " + way + ", " + kind + ", " + n + ", " + v + ", " + step + ")",
                            real.sheet(a, way, kind, n, v, step), model.sheet(a, way, kind, n, v, step));
                    break;
                case 1:
                case 2:
                    check("put(" + a + ", " + row + ", " + way + ", " + v + ")", real.put(a, row, way, v), model.put(a, row, way, v));
                    break;
                case 3:
                    int by = oneIn(3) ? draw(13) - 1 : way % 10;
                    check("take(" + a + ", " + row + ", " + by + ")", real.take(a, row, by), model.take(a, row, by));
                    break;
                case 4:
                    check("length(" + a + ")", real.length(a), model.length(a));
                    check("kind(" + a + ")", real.kind(a), model.kind(a));
                    break;
                case 5:
                    check("copies(" + a + ", " + b + ")", real.copies(a, b), model.copies(a, b));
                    break;
                case 6:
                    int through = oneIn(2) ? draw(10) - 1 : way % 10;
                    check("carries(" + a + ", " + row + ", " + b + ", " + other + ", " + through + ")",
                            real.carries(a, row, b, other, through), model.carries(a, row, b, other, through));
                    break;
                case 7:
                    check("ways(" + a + ")", real.ways(a), model.ways(a));
                    break;
                case 8:
                    check("same(" + a + ", " + b + ")", real.same(a, b), model.same(a, b));
                    break;
                case 9:
                    check("runs(" + a + ")", real.runs(a), model.runs(a));
                    check("coded(" + a + ")", real.coded(a), model.coded(a));
                    break;
                case 10:
                    check("unlike(" + row + ", " + other + ")", real.unlike(row, other), model.unlike(row, other));
                    check("rank(" + a + ", " + row + ")", real.rank(a, row), model.rank(a, row));
                    break;
                case 11:
                    int set = oneIn(20) ? draw(200) - 70 : draw(64);
                    check("alike(" + row + ", " + set + ")", real.alike(row, set), model.alike(row, set));
                    break;
                case 12:
                    check("all()", real.all(), model.all());
                    check("least()", real.least(), model.least());
                    break;
                default:
                    check("tagged(" + row + ")", real.tagged(row), model.tagged(row));
                    check("count(" + (v % 9) + ")", real.count(v % 9), model.count(v % 9));
            }
        }

        private void arranged() {
            int row = row();
            int other = row();
            boolean reflected = oneIn(2);
            int b = oneIn(20) ? draw(30) - 5 : 2 + draw(15);
            switch (draw(14)) {
                case 0:
                    write(orderText());
                    check("bound()", real.bound(), model.bound());
                    break;
                case 1:
                    write(orderText());
                    check("sorts(" + reflected + ")", real.sorts(reflected), model.sorts(reflected));
                    break;
                case 2:
                    check("fewest()", real.fewest(), model.fewest());
                    break;
                case 3:
                    if (oneIn(8)) {
                        check("best(" + reflected + ")", real.best(reflected), model.best(reflected));
                    }
                    break;
                case 4:
                    check("tours(" + b + ")", real.tours(b), model.tours(b));
                    break;
                case 5:
                    check("swaps(" + row + ", " + other + ")", real.swaps(row, other), model.swaps(row, other));
                    break;
                case 6:
                    check("moves(" + row + ", " + other + ")", real.moves(row, other), model.moves(row, other));
                    break;
                case 7:
                    if (oneIn(3)) {
                        check("bestSwap()", real.bestSwap(), model.bestSwap());
                    }
                    break;
                case 8:
                    check("place(" + row + ")", real.place(row), model.place(row));
                    break;
                case 9:
                    check("restores()", real.restores(), model.restores());
                    break;
                case 10:
                    write(dayText());
                    check("day()", real.day(), model.day());
                    break;
                case 11:
                    check("undo()", real.undo(), model.undo());
                    break;
                case 12:
                    int seed = random.nextInt();
                    int n = oneIn(20) ? draw(30) - 4 : 1 + draw(20);
                    check("years(" + seed + ", " + n + ", " + b + ")", real.years(seed, n, b), model.years(seed, n, b));
                    break;
                default:
                    int i = oneIn(10) ? draw(5) - 2 : draw(2);
                    if (oneIn(2)) {
                        check("keep(" + i + ")", real.keep(i) ? 1 : 0, model.keep(i) ? 1 : 0);
                    } else {
                        check("again(" + i + ")", real.again(i) ? 1 : 0, model.again(i) ? 1 : 0);
                    }
            }
        }

        private void compareAll() {
            for (int what = -1; what < 8 && fault == null; what++) {
                if (real.count(what) != model.count(what)) {
                    fault = "count(" + what + ") is " + real.count(what) + ", the model's " + model.count(what);
                }
            }
            for (int i = 0; i < model.answers.size() && fault == null; i++) {
                if (real.answer(i) != model.answers.get(i)) {
                    fault = "answer(" + i + ") is " + real.answer(i) + ", the model's " + model.answers.get(i);
                }
            }
            if (fault == null && !throwsAt(-1) || fault == null && !throwsAt(model.answers.size())) {
                fault = "answer() does not throw";
            }
            for (int row = 0; row < 16 && fault == null; row++) {
                if (real.tagged(row) != model.tagged(row)) {
                    fault = "tagged(" + row + ") is " + real.tagged(row) + ", the model's " + model.tagged(row);
                }
            }
            if (oneIn(4)) {
                compareCells();
            }
        }

        private boolean throwsAt(int i) {
            try {
                real.answer(i);
                return false;
            } catch (NoSuchElementException e) {
                return true;
            }
        }

        private void compareCells() {
            for (int column = 0; column < model.now.columns.size() && fault == null; column++) {
                int got = real.coded(column);
                int want = model.coded(column);
                List<Long> told = new ArrayList<>();
                for (int i = 0; i < real.count(4); i++) {
                    told.add(real.answer(i));
                }
                if (got != want || !told.equals(model.answers) || real.kind(column) != model.kind(column)) {
                    fault = "column " + column + " is coded " + told + ", the model's " + model.answers;
                }
            }
        }
    }
}
