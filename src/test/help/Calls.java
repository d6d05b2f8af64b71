import java.lang.reflect.InvocationTargetException;
import java.lang.reflect.Method;
import java.util.ArrayList;
import java.util.HashMap;
import java.util.List;
import java.util.Map;
import java.util.NoSuchElementException;

/** A new object and the calls made on it: a twin, on which they are made once more, stands where it stands. */
final class Calls {
    /** What later calls answer is free. */
    private static final int MOST_CALLS = 512;
    private static final int MOST_COLUMNS = 6;
    private static final int MOST_ROWS = 16;
    private static final int MOST_PROPER = 10;

    private static final Map<String, Method> FACE = new HashMap<>();

    static {
        for (Method method : LongRuns.class.getMethods()) {
            if (method.getDeclaringClass() == LongRuns.class) {
                FACE.put(method.getName(), method);
            }
        }
    }

    private final LongRuns object = new LongRuns();
    private final List<String> made = new ArrayList<>();

    /** The answer of a call that is written "name arguments", or "throws" for the exception that answer() has. */
    String make(String call) {
        made.add(call);
        if (made.size() > MOST_CALLS) {
            return "more calls than an object is used for";
        }
        String[] words = call.split(" ");
        Method method = FACE.get(words[0]);
        if (method == null || method.getParameterCount() != words.length - 1) {
            return "no such call";
        }
        Object[] values = new Object[words.length - 1];
        for (int k = 0; k < values.length; k++) {
            values[k] = value(method.getParameterTypes()[k], words[k + 1]);
        }
        try {
            return String.valueOf(method.invoke(object, values));
        } catch (InvocationTargetException e) {
            return e.getCause().getClass() == NoSuchElementException.class ? "throws" : e.getCause().toString();
        } catch (IllegalAccessException e) {
            return e.toString();
        }
    }

    private static Object value(Class<?> type, String word) {
        if (type == boolean.class) {
            return Boolean.valueOf(word);
        }
        if (word.equals("MIN")) {
            return Integer.MIN_VALUE;
        }
        return word.equals("MAX") ? Integer.MAX_VALUE : word.startsWith("0x") ? (int) Long.parseLong(word.substring(2), 16)
                : Integer.parseInt(word);
    }

    Calls twin() {
        Calls twin = new Calls();
        for (String call : made) {
            twin.make(call);
        }
        return twin;
    }

    void write(String text) {
        make("end 0");
        for (int p = 0; p < text.length(); p += 4) {
            int v = 0;
            for (int k = 0; k < 4; k++) {
                v = v << 8 | (p + k < text.length() ? text.charAt(p + k) : 0);
            }
            make("sign " + v);
        }
        make("end " + text.length());
    }

    private int number(String call) {
        return Integer.parseInt(make(call));
    }

    /** All of ANSWERS. */
    String answers() {
        List<String> numbers = new ArrayList<>();
        int size = number("count 4");
        for (int i = 0; i < size; i++) {
            numbers.add(make("answer " + i));
        }
        return String.join(" ", numbers);
    }

    /** The cells of a column, as numbers; what tells them changes ANSWERS. */
    String cells(int column) {
        List<String> numbers = new ArrayList<>();
        int rows = number("kind " + column) <= MOST_PROPER ? number("count 1") : 0;
        for (int row = 0; row < rows; row++) {
            numbers.add(make("take " + column + " " + row + " 10").equals("0") ? make("answer 0") : "none");
        }
        return String.join(" ", numbers);
    }

    /** The tags of the rows, as they lie. */
    String tags() {
        int rows = number("count 1");
        String[] tags = new String[rows];
        for (int tag = 0; tag < MOST_ROWS; tag++) {
            int row = number("tagged " + tag);
            if (row >= 0 && row < rows) {
                tags[row] = String.valueOf(tag);
            }
        }
        return String.join(" ", tags);
    }

    /** Columns, cells and tags; what tells them changes ANSWERS. */
    String table() {
        StringBuilder told = new StringBuilder();
        for (int column = 0; column < MOST_COLUMNS; column++) {
            told.append(make("kind " + column)).append(' ').append(make("length " + column)).append(": ");
            told.append(cells(column)).append('\n');
        }
        return told.append(make("count 0")).append(" columns, rows ").append(tags()).append('\n').toString();
    }

    /** All that calls can tell: the table, what can be undone, what is kept, THE TEXT, and ANSWERS, if asked for. */
    String everything(boolean withAnswers) {
        StringBuilder told = new StringBuilder();
        if (withAnswers) {
            told.append("ANSWERS ").append(twin().answers()).append('\n');
        }
        told.append(twin().table()).append(make("count 3")).append(" can be undone\n");
        for (int undone = 1; undone <= number("count 3") + 1; undone++) {
            Calls twin = twin();
            for (int k = 0; k < undone; k++) {
                told.append("undo ").append(twin.make("undo")).append('\n');
            }
            told.append(twin.table());
        }
        for (String call : new String[] {"again 0", "again 1", "table", "bound", "day", "count 5"}) {
            Calls twin = twin();
            told.append(call).append(' ').append(twin.make(call)).append('\n').append(twin.table());
        }
        return told.toString();
    }
}
