import java.io.IOException;
import java.nio.file.Files;
import java.nio.file.Path;
import java.util.regex.Matcher;
import java.util.regex.Pattern;

/** What of LANGUAGE.md can be seen from the program's text alone. */
public final class LanguageTest {
    private static final String[] RULED_OUT = {
        "->", "::", "\\bfinally\\b", "\\bsynchronized\\b", "\\bassert\\b", "\\bpackage\\b", "\\bprotected\\b",
        "\\bfloat\\b", "\\bdouble\\b", "\\bFloat\\b", "\\bDouble\\b", "\\bObject\\b", "Exact\\(", "\\btry\\b", "\\bcatch\\b",
        "\\bSystem\\.(?!arraycopy)", "\\bThread\\b", "\\bstatic \\{", "\\bhashCode\\b", "\\btoString\\b", "\\bwhile \\(true\\)",
        "\\bfor \\(;", "\\[\\]\\[\\]\\[\\]",
    };
    private static final int MOST_LINES = 60;
    private static final int MOST_PARAMETERS = 7;

    private static int wrong = 0;

    public static void main(String[] args) throws IOException {
        String source = Files.readString(Path.of("src/main/java/LongRuns.java"));
        String bare = source.replaceAll("(?s)/\\*.*?\\*/", " ").replaceAll("//[^\n]*", " ").replaceAll("\"[^\"\n]*\"", "\"\"");
        for (String ruled : RULED_OUT) {
            Matcher matcher = Pattern.compile(ruled).matcher(bare);
            due("no " + ruled, !matcher.find());
        }
        Matcher imports = Pattern.compile("import ([^;]*);").matcher(bare);
        while (imports.find()) {
            due("import " + imports.group(1), imports.group(1).equals("java.util.NoSuchElementException"));
        }
        Matcher thrown = Pattern.compile("throw ([^;]*);").matcher(bare);
        while (thrown.find()) {
            due("throw " + thrown.group(1), thrown.group(1).equals("new NoSuchElementException(\"\")"));
        }
        lookAtMethods(source);
        if (wrong != 0) {
            System.exit(1);
        }
        System.out.println("the program keeps to what was looked at");
    }

    private static void lookAtMethods(String source) {
        Pattern head = Pattern.compile("^( {4}| {8})(?! )[^=;]*\\(([^()]*)\\)[^;=]*\\{$");
        String[] lines = source.split("\n");
        int methods = 0;
        for (int k = 0; k < lines.length; k++) {
            Matcher matcher = head.matcher(lines[k]);
            if (!matcher.find() || lines[k].trim().matches("(if|for|while|switch|\\}).*")) {
                continue;
            }
            methods++;
            int end = k;
            while (end < lines.length && !lines[end].equals(matcher.group(1) + "}")) {
                end++;
            }
            due("short: " + lines[k].trim(), end - k < MOST_LINES);
            due("few parameters: " + lines[k].trim(), matcher.group(2).split(",").length <= MOST_PARAMETERS);
        }
        due("methods were found: " + methods, methods > 80);
    }

    private static void due(String what, boolean holds) {
        if (!holds) {
            wrong++;
            System.out.println("not as due: " + what);
        }
    }
}
