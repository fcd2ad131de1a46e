import java.io.IOException;
import java.io.OutputStream;
import java.lang.reflect.Method;
import java.lang.reflect.Modifier;
import java.net.URL;
import java.net.URLClassLoader;
import java.nio.file.Files;
import java.nio.file.Path;
import java.util.regex.Matcher;
import java.util.regex.Pattern;
import javax.tools.JavaCompiler;
import javax.tools.ToolProvider;

/** README.md: its example compiles and answers what is written beside its calls; its table names the whole face. */
public final class ReadmeTest extends Checks {
    private static final Pattern ANSWERED = Pattern.compile("(?m)^ *(x\\.\\w+\\(.*\\)); +// (-?\\d+): .*$");

    public static void main(String[] args) throws Exception {
        about("README.md");
        String readme = Files.readString(Path.of("README.md"));
        String example = block(readme, "java");
        runExample(example);
        namesTheFace(readme);
        finish("ReadmeTest");
    }

    private static String block(String readme, String language) {
        int from = readme.indexOf("```" + language + "\n");
        int to = readme.indexOf("\n```\n", from);
        if (from < 0 || to < 0) {
            fail("no block of " + language);
            return "";
        }
        return readme.substring(readme.indexOf('\n', from) + 1, to + 1);
    }

    /** Called by the example once every call in it that has an answer beside it is held to that answer. */
    public static void answered(long got, long want, String call) {
        due(got, want, call);
    }

    private static void runExample(String example) throws Exception {
        Path dir = Files.createTempDirectory("readme");
        compile(dir, example, "the example as it stands");
        Matcher calls = ANSWERED.matcher(example);
        StringBuilder held = new StringBuilder();
        int answers = 0;
        while (calls.find()) {
            String call = calls.group(1);
            String name = call.replace("\"", "'");
            calls.appendReplacement(held, Matcher.quoteReplacement(
                    "ReadmeTest.answered(" + call + ", " + calls.group(2) + "L, \"" + name + "\");"));
            answers++;
        }
        calls.appendTail(held);
        due(answers, example.lines().filter(line -> line.contains("; ") && line.contains(" // ")).count(),
                "calls with an answer beside them");
        if (answers == 0) {
            fail("no call in the example has its answer beside it");
        }
        compile(dir, held.toString(), "the example with its answers");
        try (URLClassLoader loader = new URLClassLoader(new URL[] {dir.toUri().toURL()})) {
            Method main = loader.loadClass("Example").getMethod("main", String[].class);
            main.invoke(null, (Object) new String[0]);
        }
        remove(dir);
    }

    private static void compile(Path dir, String source, String what) throws IOException {
        Path file = Files.writeString(dir.resolve("Example.java"), source);
        JavaCompiler javac = ToolProvider.getSystemJavaCompiler();
        String classes = System.getProperty("java.class.path");
        int code = javac.run(null, OutputStream.nullOutputStream(), null, "--release", "17", "-cp", classes,
                "-d", dir.toString(), file.toString());
        due(code, 0, "compiling " + what);
    }

    private static void remove(Path dir) throws IOException {
        try (var files = Files.list(dir)) {
            for (Path file : files.toList()) {
                Files.delete(file);
            }
        }
        Files.delete(dir);
    }

    private static void namesTheFace(String readme) {
        String table = readme.substring(readme.indexOf("| what | calls |"), readme.indexOf("## Running the tests"));
        for (Method m : TunedHouses.class.getDeclaredMethods()) {
            if (Modifier.isPublic(m.getModifiers())) {
                due(table.split("`" + m.getName() + "`", -1).length - 1, 1, "how often it lists " + m.getName());
            }
        }
    }
}
