import java.io.IOException;
import java.nio.file.DirectoryStream;
import java.nio.file.Files;
import java.nio.file.Path;
import java.util.ArrayList;
import java.util.HashMap;
import java.util.List;
import java.util.Map;
import java.util.TreeSet;

/**
 * A test of its own for each sentence of the document that names a boundary case.
 *
 * They stand under src/test/boundaries: behind "== Promise 5: " (or "== Terms: ") the document's own words, then a script
 * (src/test/help/Script.java says how it is written). Words that the document does not have there, and words of a promise
 * or a term that no test is for, are faults, too: so a document that changes shows what must be read again.
 */
public final class BoundariesTest {
    private static final Path DOCUMENT = Path.of("../shared/DOC.md");
    private static final Path TESTS = Path.of("src/test/boundaries");
    private static final String HEAD = "== ";
    private static final int PROMISES = 38;
    private static final int MOST_SECONDS = 300;

    private static final Map<String, String> PARTS = new HashMap<>();
    private static final Map<String, boolean[]> QUOTED = new HashMap<>();
    private static int faults = 0;
    private static int tests = 0;

    public static void main(String[] args) throws IOException {
        Watch.begin(MOST_SECONDS);
        readDocument();
        Script script = new Script();
        for (Path file : files()) {
            runFile(script, file);
        }
        for (int promise = 1; promise <= PROMISES && !PARTS.isEmpty(); promise++) {
            lookForWordsLeft("Promise " + promise);
        }
        if (!PARTS.isEmpty()) {
            lookForWordsLeft("Terms");
        }
        System.out.println(tests + " boundary tests: " + script.summary());
        if (faults != 0 || script.wrongOnes() != 0) {
            System.exit(1);
        }
    }

    private static void fault(String what) {
        faults++;
        System.out.println(what);
    }

    private static String withoutBreaks(String text) {
        return text.replaceAll("\\s+", " ").trim();
    }

    /** Parts of the document by their headings; of a promise, what stands behind the line of its call. */
    private static void readDocument() throws IOException {
        if (!Files.isReadable(DOCUMENT)) {
            System.out.println("the document is not at hand: its words are not looked for");
            return;
        }
        for (String part : Files.readString(DOCUMENT).split("(?m)^## ")) {
            String heading = part.split("\n")[0];
            String name = heading.startsWith("Promise ") ? heading.substring(0, heading.indexOf(':')) : heading.trim();
            String text = withoutBreaks(part.substring(heading.length()).replace("```text", "").replace("```", ""));
            if (name.equals("Terms") && text.contains("Ahead of the calls")) {
                text = text.substring(0, text.indexOf("Ahead of the calls"));
            }
            if (name.startsWith("Promise ")) {
                text = text.substring(text.indexOf("`:") + 2);
            }
            PARTS.put(name, text);
            QUOTED.put(name, new boolean[text.length()]);
        }
    }

    private static List<Path> files() throws IOException {
        TreeSet<Path> found = new TreeSet<>();
        try (DirectoryStream<Path> stream = Files.newDirectoryStream(TESTS, "*.txt")) {
            for (Path file : stream) {
                found.add(file);
            }
        }
        return new ArrayList<>(found);
    }

    private static void runFile(Script script, Path file) throws IOException {
        String head = null;
        StringBuilder rows = new StringBuilder();
        for (String row : Files.readAllLines(file)) {
            if (row.startsWith(HEAD)) {
                runTest(script, head, rows.toString());
                head = row.substring(HEAD.length());
                rows.setLength(0);
            } else {
                rows.append(row).append('\n');
            }
        }
        runTest(script, head, rows.toString());
    }

    private static void runTest(Script script, String head, String rows) {
        if (head == null) {
            return;
        }
        tests++;
        if (rows.isBlank()) {
            fault("no rows: " + head);
        }
        int cut = head.indexOf(": ");
        if (!PARTS.isEmpty()) {
            quote(head.substring(0, Math.max(0, cut)), head.substring(cut + 2).trim());
        }
        script.run(head, rows);
    }

    private static void quote(String part, String words) {
        String text = PARTS.getOrDefault(part, "");
        int at = text.indexOf(words);
        if (at < 0 || words.isEmpty()) {
            fault("the document has no such words: " + part + ": " + words);
        }
        while (at >= 0 && !words.isEmpty()) {
            for (int p = at; p < at + words.length(); p++) {
                QUOTED.get(part)[p] = true;
            }
            at = text.indexOf(words, at + 1);
        }
    }

    private static void lookForWordsLeft(String part) {
        String text = PARTS.getOrDefault(part, "");
        if (text.isEmpty()) {
            fault("the document has no part " + part);
        }
        StringBuilder left = new StringBuilder();
        for (int p = 0; p < text.length(); p++) {
            left.append(QUOTED.get(part)[p] ? '\n' : text.charAt(p));
        }
        for (String words : left.toString().split("\n+")) {
            if (words.matches(".*[A-Za-z0-9].*") && !words.trim().matches("\\d\\.")) {
                fault("no test is for these words of " + part + ": " + words.trim());
            }
        }
    }
}
