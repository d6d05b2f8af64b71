import java.io.IOException;
import java.net.URL;
import java.net.URLClassLoader;
import java.nio.file.Files;
import java.nio.file.Path;
import java.util.regex.Matcher;
import java.util.regex.Pattern;
import javax.tools.ToolProvider;

/** The code of README.md compiles, and each call there that tells its answer answers so. */
public final class ReadmeTest {
    private static final Pattern BLOCK = Pattern.compile("```java\n(.*?)```", Pattern.DOTALL);
    private static final Pattern ANSWERED = Pattern.compile("(?m)^(x\\.\\w+\\(.*?\\)); *// (-?\\d+|true|false): .*$");
    private static final int LEAST_CALLS = 20;
    private static final int MOST_SECONDS = 100;

    private static int checked = 0;
    private static int wrong = 0;

    public static void main(String[] args) throws IOException, ReflectiveOperationException {
        Watch.begin(MOST_SECONDS);
        Path work = Files.createTempDirectory("readme");
        Path source = work.resolve("Readme.java");
        // What is told first goes last: the directory, when it is empty.
        work.toFile().deleteOnExit();
        source.toFile().deleteOnExit();
        work.resolve("Readme.class").toFile().deleteOnExit();
        Files.writeString(source, exampleOf(Files.readString(Path.of("README.md"))));
        int failed = ToolProvider.getSystemJavaCompiler().run(null, null, null, "-cp", System.getProperty("java.class.path"),
                "-d", work.toString(), source.toString());
        if (failed != 0) {
            System.out.println("the code of README.md does not compile");
            System.exit(1);
        }
        try (URLClassLoader loader = new URLClassLoader(new URL[] {work.toUri().toURL()})) {
            loader.loadClass("Readme").getMethod("run").invoke(null);
        }
        System.out.println(checked + " answers of README.md looked at, " + wrong + " are not as due");
        if (wrong != 0 || checked < LEAST_CALLS) {
            System.exit(1);
        }
    }

    /** Blocks that begin with a method stand in the class as they are, others in a method that is run. */
    private static String exampleOf(String readme) {
        StringBuilder methods = new StringBuilder();
        StringBuilder calls = new StringBuilder();
        Matcher block = BLOCK.matcher(readme);
        while (block.find()) {
            (block.group(1).startsWith("static") ? methods : calls).append(block.group(1));
        }
        String looked = ANSWERED.matcher(calls).replaceAll("ReadmeTest.look(\"$1\", String.valueOf($1), \"$2\");");
        return "public final class Readme {\n" + methods + "public static void run() {\n" + looked + "}\n}\n";
    }

    public static void look(String call, String answered, String due) {
        checked++;
        if (!answered.equals(due)) {
            wrong++;
            System.out.println(call + " answers " + answered + ", due is " + due);
        }
    }
}
