import java.lang.reflect.Method;
import java.lang.reflect.Modifier;
import java.util.ArrayList;
import java.util.List;

/** No call throws by itself, whatever its arguments and wherever the object stands: each bound, just beside it, far off. */
public final class ExtremesTest {
    private static final int MOST_SECONDS = 300;
    /** Arguments of calls that have few of them, and of those that have many. */
    private static final String[] MANY = {"MIN", "-2147483647", "-2", "-1", "0", "1", "2", "3", "5", "6", "7", "8", "9", "10", "11",
        "15", "16", "17", "20", "21", "22", "31", "32", "63", "64", "79", "80", "81", "1000000", "2147483646", "MAX"};
    private static final String[] FEW = {"MIN", "-1", "0", "1", "5", "6", "8", "16", "17", "21", "MAX"};
    private static final String[] FEWEST = {"MIN", "-1", "0", "3", "6", "16", "MAX"};
    private static final int MANY_UP_TO = 3;
    private static final int FEW_UP_TO = 4;

    /** Texts and calls by which an object comes to where it stands. */
    private static final String[][] STANDS = {
        {},
        {"text 00bo", "table"},
        {"text 16", "table", "swaps 0 15"},
        {"text 16zbcsij", "table", "sheet 5 5 2 16 MIN 77", "coded 5", "text abc"},
        {"text 16fdntox", "table", "sheet 0 6 2 16 MAX 9", "sheet 3 19 2 16 -1 5", "keep 1", "moves 0 15", "text pf152199"},
        {"text 03xyw", "table", "all", "text 02z"},
        {"text 01ntoyxi", "table", "put 0 0 14 MIN", "put 1 0 19 MAX", "put 2 0 20 MIN", "text s0000", "keep 0"},
    };
    private static final String[] PROBES = {"all", "least", "fewest", "best true", "bestSwap", "sorts true", "tours 16", "coded 5",
        "restores", "undo", "undo", "day"};

    private static int wrong = 0;
    private static int called = 0;

    public static void main(String[] args) {
        Watch.begin(MOST_SECONDS);
        for (Method method : LongRuns.class.getDeclaredMethods()) {
            if (Modifier.isPublic(method.getModifiers())) {
                for (String call : calls(method)) {
                    callEverywhere(call);
                }
            }
        }
        System.out.println(called + " calls with extreme arguments, " + wrong + " of them throw by themselves");
        if (wrong != 0 || called == 0) {
            System.exit(1);
        }
    }

    private static List<String> calls(Method method) {
        int arguments = method.getParameterCount();
        String[] numbers = arguments <= MANY_UP_TO ? MANY : arguments <= FEW_UP_TO ? FEW : FEWEST;
        List<String> calls = new ArrayList<>();
        calls.add(method.getName());
        for (Class<?> type : method.getParameterTypes()) {
            List<String> longer = new ArrayList<>();
            for (String begun : calls) {
                for (String value : type == boolean.class ? new String[] {"false", "true"} : numbers) {
                    longer.add(begun + " " + value);
                }
            }
            calls = longer;
        }
        return calls;
    }

    private static void callEverywhere(String call) {
        for (String[] stand : STANDS) {
            Calls calls = new Calls();
            for (String row : stand) {
                if (row.startsWith("text ")) {
                    calls.write(row.substring(5));
                } else {
                    look(stand, row, calls.make(row));
                }
            }
            look(stand, call, calls.make(call));
            if (call.hashCode() % 16 == 0) {
                for (String probe : PROBES) {
                    look(stand, call + ", then " + probe, calls.make(probe));
                }
            }
        }
    }

    private static void look(String[] stand, String call, String answer) {
        called++;
        boolean isAnswer = answer.matches("-?\\d+|true|false");
        if (!isAnswer && !(answer.equals("throws") && call.startsWith("answer "))) {
            wrong++;
            System.out.println(String.join(", ", stand) + ", then " + call + ": " + answer);
        }
    }
}
