import java.util.Arrays;
import java.util.List;

/**
 * Runs scripts of calls and prints each row whose answer is not the one that is due.
 *
 * A script's rows; behind #, why:
 *   new                        a new object
 *   text abc                   THE TEXT becomes abc
 *   fill column way v v ..     cells of ROW 0, 1, .. are put, by sheets: nothing of it can be undone
 *   name arguments = answer    a call (arguments MIN, MAX: the least, the greatest int; answers NONE, NOTHING)
 *   name arguments throws      a call that throws NoSuchElementException
 *   refused call = answer      behind it all is as it was; THE TEXT is empty, if the call reads it
 *   asks call = answer         likewise, but for ANSWERS
 *   undone call = answer       undo() would take it back: COLUMNS, cells, TAGS as ahead of it (asked of a twin)
 *   each a..b row              a row for each number, which is put for *; of its answers, one each or one for all
 *   repeat n row               a row, n times
 *   answers a b ..             all of ANSWERS
 *   column a = x y ..          all cells of a column, as numbers (nothing is changed by asking)
 *   rows = a b ..              the TAGS of the rows, as they lie
 */
final class Script {
    private static final int MOST_UNDONE = 8;
    private static final List<String> READERS = Arrays.asList("table", "bound", "sorts", "day");

    private Calls calls = new Calls();
    private String where = "";
    private int checked;
    private int wrong;

    void run(String name, String rows) {
        calls = new Calls();
        int number = 0;
        for (String whole : rows.split("\n")) {
            number++;
            String row = (whole.contains("#") ? whole.substring(0, whole.indexOf('#')) : whole).trim();
            where = name + ", row " + number + ": " + row;
            if (!row.isEmpty()) {
                doRow(row);
            }
        }
    }

    int wrongOnes() {
        return wrong;
    }

    String summary() {
        return checked + " answers looked at, " + wrong + " are not as due";
    }

    private void doRow(String row) {
        String first = row.split(" ")[0];
        String rest = row.substring(first.length()).trim();
        switch (first) {
            case "new":
                calls = new Calls();
                break;
            case "text":
                calls.write(rest);
                break;
            case "fill":
                fill(rest.split(" "));
                break;
            case "repeat":
                repeat(rest);
                break;
            case "each":
                each(rest);
                break;
            case "answers":
                due(calls.twin().answers(), rest);
                break;
            case "column":
                due(calls.twin().cells(Integer.parseInt(rest.split(" ")[0])), answerOf(rest));
                break;
            case "rows":
                due(calls.twin().tags(), answerOf(row));
                break;
            case "refused":
                doAndCompare(rest, true);
                break;
            case "asks":
                doAndCompare(rest, false);
                break;
            case "undone":
                doAndUndo(rest);
                break;
            default:
                due(calls.make(callOf(row)), answerOf(row));
        }
    }

    private static String callOf(String row) {
        if (row.endsWith(" throws")) {
            return row.substring(0, row.length() - 7);
        }
        return row.contains(" =") ? row.substring(0, row.indexOf(" =")) : row;
    }

    private static String answerOf(String row) {
        if (row.endsWith(" throws")) {
            return "throws";
        }
        return row.contains(" =") ? row.substring(row.indexOf(" =") + 2).trim() : "(none is written)";
    }

    /** From the last cell on: each sheet puts all cells up to one, those behind it stay. */
    private void fill(String[] words) {
        for (int k = words.length - 1; k >= 2; k--) {
            String told = calls.make("sheet " + words[0] + " " + words[1] + " 2 " + (k - 1) + " " + words[k] + " 0");
            due(told, String.valueOf(k - 1));
        }
    }

    private void repeat(String rest) {
        String times = rest.split(" ")[0];
        for (int k = Integer.parseInt(times); k > 0; k--) {
            doRow(rest.substring(times.length()).trim());
        }
    }

    private void each(String rest) {
        String range = rest.split(" ")[0];
        String row = rest.substring(range.length()).trim();
        int from = Integer.parseInt(range.substring(0, range.indexOf("..")));
        int to = Integer.parseInt(range.substring(range.indexOf("..") + 2));
        String[] answers = answerOf(row).split(" ");
        if (answers.length != 1 && answers.length != to - from + 1) {
            due("answers written: " + answers.length, "one each");
            return;
        }
        for (int k = from; k <= to; k++) {
            String call = callOf(row).replace("*", String.valueOf(k));
            String answer = answers[answers.length == 1 ? 0 : k - from];
            doRow(answer.equals("throws") ? call + " throws" : call + " = " + answer);
        }
    }

    private void doAndCompare(String row, boolean withAnswers) {
        Calls ahead = calls.twin();
        if (READERS.contains(callOf(row).split(" ")[0])) {
            ahead.make("end 0");
        }
        due(calls.make(callOf(row)), answerOf(row));
        String was = ahead.everything(withAnswers);
        String is = calls.twin().everything(withAnswers);
        checked++;
        if (!is.equals(was)) {
            wrong++;
            System.out.println(where + ": it changes what must stay; was\n" + was + "is\n" + is);
        }
    }

    private void doAndUndo(String row) {
        Calls ahead = calls.twin();
        due(calls.make(callOf(row)), answerOf(row));
        Calls back = calls.twin();
        int couldBe = Integer.parseInt(ahead.make("count 3"));
        due(back.make("undo"), String.valueOf(Math.min(couldBe, MOST_UNDONE - 1)));
        due(back.table(), ahead.table());
    }

    private void due(String got, String written) {
        String want = written.replace("NOTHING", String.valueOf(Long.MIN_VALUE)).replace("NONE", "-1");
        checked++;
        if (!got.equals(want)) {
            wrong++;
            System.out.println(where + ": answered " + got + ", due is " + want);
        }
    }
}
