import java.lang.invoke.MethodHandles;
import java.nio.charset.StandardCharsets;
import java.nio.file.Files;
import java.nio.file.Path;
import java.util.regex.Matcher;
import java.util.regex.Pattern;
import java.util.stream.Stream;
import javax.tools.JavaCompiler;
import javax.tools.ToolProvider;

/** What README.md shows holds: its Java is compiled, and each call with an answer behind it is made. */
public final class ReadmeTest {
    private static final Due DUE = new Due();
    private static final Pattern BLOCK = Pattern.compile("(?s)```java\n(.*?)```");
    private static final Pattern SHOWN = Pattern.compile("(.*); +// (-?\\d+|true|false|NoSuchElementException)");

    public static void main(String[] args) throws Exception {
        String readme = Files.readString(Path.of("README.md"), StandardCharsets.US_ASCII);
        StringBuilder functions = new StringBuilder();
        StringBuilder calls = new StringBuilder();
        int shown = 0;
        for (Matcher m = BLOCK.matcher(readme); m.find();) {
            if (m.group(1).startsWith("static ")) {
                functions.append(m.group(1));
                continue;
            }
            for (String line : m.group(1).split("\n")) {
                Matcher s = SHOWN.matcher(line);
                calls.append(s.matches() ? looked(s.group(1), s.group(2)) : line).append('\n');
                shown += s.matches() ? 1 : 0;
            }
        }
        DUE.is("README.md shows many calls", shown > 40, true);
        run("final class Shown {\n" + functions + "static void run(Due due) {\n" + calls + "}\n}\n");
        DUE.finish();
    }

    private static String looked(String call, String answer) {
        String what = '"' + call.replace("\"", "\\\"") + "\", ";
        return answer.startsWith("No") ? "due.throwsNoSuch(" + what + "() -> " + call + ");"
                : "due.is(" + what + call + ", " + answer + ");";
    }

    /** The class is made in this one's loader, so that it reaches what the tests share. */
    private static void run(String source) throws Exception {
        Path dir = Files.createTempDirectory("shown");
        Path file = Files.writeString(dir.resolve("Shown.java"), source);
        JavaCompiler compiler = ToolProvider.getSystemJavaCompiler();
        int rc = compiler.run(null, null, null, "-cp", System.getProperty("java.class.path"), "-d", dir.toString(),
                file.toString());
        DUE.is("compiling what README.md shows", rc, 0);
        if (rc == 0) {
            Class<?> shown = MethodHandles.lookup().defineClass(Files.readAllBytes(dir.resolve("Shown.class")));
            shown.getDeclaredMethod("run", Due.class).invoke(null, DUE);
        }
        try (Stream<Path> all = Files.list(dir)) {
            for (Path p : (Iterable<Path>) all::iterator) {
                Files.delete(p);
            }
        }
        Files.delete(dir);
    }
}
