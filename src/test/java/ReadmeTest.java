import java.io.IOException;
import java.lang.reflect.Method;
import java.net.URL;
import java.net.URLClassLoader;
import java.nio.file.Files;
import java.nio.file.Path;
import java.util.ArrayList;
import java.util.List;
import java.util.regex.Matcher;
import java.util.regex.Pattern;
import javax.tools.ToolProvider;

/**
 * Makes the calls of README.md's example: a remark that begins with a number, true or false says what the call
 * answers, one that begins with "throws" what it throws.
 */
public final class ReadmeTest {
    private static final Pattern LINE = Pattern.compile("(?:int (\\w+) = )?(.+);\\s+// (throws (\\w+)|-?\\d+|true|false)\\b.*");
    private static final int FEWEST_ANSWERS = 25;

    private ReadmeTest() {
    }

    public static void main(String[] args) throws Exception {
        List<String> example = example(Path.of(System.getProperty("readme", "README.md")));
        int[] answers = {0};
        StringBuilder body = new StringBuilder();
        for (String line : example) {
            body.append(compared(line, answers)).append('\n');
        }
        if (answers[0] < FEWEST_ANSWERS) {
            Due.tell("only " + answers[0] + " answers are found in the example of README.md");
            Due.end();
        }
        run(body.toString());
    }

    private static List<String> example(Path readme) throws IOException {
        List<String> found = new ArrayList<>();
        boolean inside = false;
        for (String line : Files.readAllLines(readme)) {
            if (line.startsWith("```")) {
                inside = line.equals("```java");
            } else if (inside) {
                found.add(line);
            }
        }
        return found;
    }

    private static String compared(String line, int[] answers) {
        Matcher told = LINE.matcher(line);
        if (!told.matches()) {
            return line;
        }
        answers[0]++;
        String call = told.group(2);
        if (told.group(4) != null) {
            return "Due.thrown(net, \"" + call + "\", " + told.group(4) + ".class, () -> " + call + ");";
        }
        if (told.group(1) == null) {
            return "Due.answer(\"" + call + "\", " + call + ", " + told.group(3) + ");";
        }
        return "int " + told.group(1) + " = " + call + "; Due.answer(\"" + call + "\", " + told.group(1) + ", "
                + told.group(3) + ");";
    }

    private static void run(String body) throws Exception {
        Path made = Files.createTempDirectory("readme");
        Path source = made.resolve("ReadmeExample.java");
        // In this order: what is named first is deleted last, and the directory must be empty by then.
        for (Path each : List.of(made, source, made.resolve("ReadmeExample.class"))) {
            each.toFile().deleteOnExit();
        }
        Files.writeString(source, "final class ReadmeExample { static void go() {\n" + body + "Due.end(); } }\n");
        String path = System.getProperty("java.class.path");
        String[] options = {"-cp", path, "-d", made.toString(), source.toString()};
        if (ToolProvider.getSystemJavaCompiler().run(null, null, null, options) != 0) {
            Due.tell("the example of README.md does not compile");
            Due.end();
        }
        load(made, Path.of(path));
    }

    /** One loader for the example and the helpers that it uses, which no other package or loader may see. */
    private static void load(Path made, Path helpers) throws Exception {
        URL[] places = {made.toUri().toURL(), helpers.toUri().toURL()};
        try (URLClassLoader loader = new URLClassLoader(places, ClassLoader.getPlatformClassLoader())) {
            Method go = loader.loadClass("ReadmeExample").getDeclaredMethod("go");
            go.setAccessible(true);
            go.invoke(null);
        }
    }
}
