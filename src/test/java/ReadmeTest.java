import java.io.IOException;
import java.lang.reflect.Field;
import java.lang.reflect.Method;
import java.lang.reflect.Modifier;
import java.net.URL;
import java.net.URLClassLoader;
import java.nio.file.Files;
import java.nio.file.Path;
import java.util.regex.Matcher;
import java.util.regex.Pattern;
import java.util.stream.Stream;
import javax.tools.ToolProvider;

/** README.md tells what is so: its example is compiled and run, and what it names is there. */
public final class ReadmeTest {
    private static final Pattern ANSWERED = Pattern.compile("(x\\.\\w+\\(.*\\));\\s*// (-?\\d+)\\b.*");
    private static final int ANSWERS_AT_LEAST = 25;

    public static void main(String[] args) throws IOException, ReflectiveOperationException {
        String readme = Files.readString(Path.of("README.md"));
        example(readme);
        face(readme);
        commands(readme, Files.readString(Path.of(".ci/run")));
        tests(readme);
        Check.end();
    }

    private static void holds(String what, boolean does) {
        Check.due(what, does ? 1 : 0, 1);
    }

    private static String block(String readme) {
        Matcher m = Pattern.compile("(?s)```java\n(.*?)```").matcher(readme);
        return m.find() ? m.group(1) : "";
    }

    /** Each call of the example with a number behind it becomes a test of that number. */
    private static void example(String readme) throws IOException, ReflectiveOperationException {
        StringBuilder body = new StringBuilder("public class Example {\n  public static void run() {\n");
        int answers = 0;
        for (String line : block(readme).split("\n")) {
            Matcher m = ANSWERED.matcher(line);
            if (m.matches()) {
                answers++;
                String said = "README, " + answers + ": " + m.group(1).replace("\"", "'");
                body.append("Check.due(\"").append(said).append("\", ").append(m.group(1)).append(", ")
                    .append(m.group(2)).append(");\n");
            } else {
                holds("a call without its answer: " + line, !line.startsWith("x."));
                body.append(line).append('\n');
            }
        }
        holds("the example has answers, " + answers, answers >= ANSWERS_AT_LEAST);
        run(body.append("  }\n}\n").toString());
    }

    private static void run(String source) throws IOException, ReflectiveOperationException {
        Path place = Files.createTempDirectory("readme");
        Path file = place.resolve("Example.java");
        Path made = place.resolve("Example.class");
        Files.writeString(file, source);
        int failed = ToolProvider.getSystemJavaCompiler().run(null, System.out, System.out, "-proc:none",
            "-cp", System.getProperty("java.class.path"), "-d", place.toString(), file.toString());
        Check.due("the example compiles", failed, 0);
        if (failed == 0) {
            try (URLClassLoader loader = new URLClassLoader(new URL[] {place.toUri().toURL()})) {
                loader.loadClass("Example").getMethod("run").invoke(null);
            }
        }
        Files.deleteIfExists(made);
        Files.deleteIfExists(file);
        Files.deleteIfExists(place);
    }

    private static void face(String readme) throws ReflectiveOperationException {
        for (Method m : WellLocks.class.getDeclaredMethods()) {
            if (Modifier.isPublic(m.getModifiers())) {
                holds("README names " + m.getName() + "()", readme.contains("`" + m.getName() + "("));
            }
        }
        for (Field f : WellLocks.class.getDeclaredFields()) {
            if (Modifier.isPublic(f.getModifiers())) {
                String told = "`" + f.getName() + "` " + f.getInt(null);
                holds("README tells " + told, readme.contains(told));
            }
        }
    }

    /** What README.md says to run for a test is what .ci/run does, with the names put in. */
    private static void commands(String readme, String script) {
        holds("README says .ci/run", readme.contains("\n    .ci/run\n"));
        holds("README says how to compile", readme.contains("    javac -encoding UTF-8 -sourcepath src/test/support"
            + " -d out src/main/java/WellLocks.java src/test/java/PromisesTest.java\n"));
        holds(".ci/run compiles so", script.contains("javac -encoding UTF-8 -sourcepath src/test/support"
            + " -d \"$out\" \"$program\" \"$file\""));
        holds("README says how to run", readme.contains(
            "    java -cp out -Dprogram=src/main/java/WellLocks.java PromisesTest\n"));
        holds(".ci/run runs so", script.contains("java -cp \"$out\" -Dprogram=\"$program\" \"$name\""));
        holds(".ci/run takes this program", script.contains("program=src/main/java/WellLocks.java"));
        for (String place : new String[] {"../shared/tests", "src/test/java"}) {
            holds("README tells of " + place, readme.contains("`" + place + "`"));
            holds(".ci/run goes through " + place, script.contains(place));
        }
    }

    private static void tests(String readme) throws IOException {
        try (Stream<Path> files = Files.list(Path.of("src/test/java"))) {
            files.map(file -> file.getFileName().toString().replace(".java", "")).forEach(name -> {
                String told = name.startsWith("EdgesOf") ? "EdgesOf..Test" : name;
                holds("README tells of " + name, readme.contains("- `" + told + "`:"));
            });
        }
    }
}
