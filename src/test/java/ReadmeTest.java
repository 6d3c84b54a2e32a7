import java.io.ByteArrayOutputStream;
import java.io.File;
import java.io.IOException;
import java.io.PrintStream;
import java.lang.reflect.Method;
import java.lang.reflect.Modifier;
import java.net.URL;
import java.net.URLClassLoader;
import java.nio.charset.StandardCharsets;
import java.nio.file.Files;
import java.nio.file.Path;
import java.util.ArrayList;
import java.util.Comparator;
import java.util.List;
import java.util.Set;
import java.util.TreeSet;
import java.util.regex.Matcher;
import java.util.regex.Pattern;
import java.util.stream.Stream;
import javax.tools.JavaCompiler;
import javax.tools.ToolProvider;

/** What README.md shows answers as it says there, and what it names is there. */
public final class ReadmeTest {
    private static final Path README = Path.of("README.md");
    private static final Path TESTS = Path.of("src/test/java");

    public static void main(String[] args) throws IOException, ReflectiveOperationException {
        String text = Files.readString(README);
        examples(text);
        calls(text);
        tests(text);
        command(text);
        Check.end();
    }

    private static void examples(String text) throws IOException, ReflectiveOperationException {
        int seen = 0;
        Matcher block = Pattern.compile("(?s)```java\n(.*?)```").matcher(text);
        while (block.find()) {
            seen++;
            String code = block.group(1);
            List<String> printed = printedBy(code);
            List<String> said = saidIn(code);
            Check.due("lines printed by the example", printed.size(), said.size());
            for (int i = 0; i < Math.min(printed.size(), said.size()); i++) {
                Check.due("example's answer " + i + ": " + printed.get(i) + ", said is " + said.get(i),
                        printed.get(i).equals(said.get(i)), true);
            }
        }
        Check.due("examples are shown", seen > 0, true);
    }

    /** The answers behind the calls: "// 300" or "// 300: why". */
    private static List<String> saidIn(String code) {
        List<String> said = new ArrayList<>();
        Pattern answer = Pattern.compile("println\\(.*\\);\\s*// (-?\\d+|true|false)(:.*)?$");
        for (String line : code.split("\n")) {
            if (line.contains("println(")) {
                Matcher found = answer.matcher(line);
                Check.due("an answer stands behind: " + line.trim(), found.find(), true);
                said.add(found.reset().find() ? found.group(1) : "");
            }
        }
        return said;
    }

    private static List<String> printedBy(String code) throws IOException, ReflectiveOperationException {
        Matcher name = Pattern.compile("public final class (\\w+)").matcher(code);
        Check.due("the example is a class", name.find(), true);
        Path room = Files.createTempDirectory("readme");
        PrintStream out = System.out;
        ByteArrayOutputStream printed = new ByteArrayOutputStream();
        try {
            Path file = room.resolve(name.group(1) + ".java");
            Files.writeString(file, code);
            JavaCompiler javac = ToolProvider.getSystemJavaCompiler();
            int failed = javac.run(null, null, null, "-cp", System.getProperty("java.class.path"),
                    "-d", room.toString(), file.toString());
            Check.due("the example compiles", failed, 0);
            if (failed == 0) {
                System.setOut(new PrintStream(printed, true, StandardCharsets.US_ASCII));
                runMain(room, name.group(1));
            }
        } finally {
            System.setOut(out);
            remove(room);
        }
        return printed.toString(StandardCharsets.US_ASCII).lines().toList();
    }

    private static void runMain(Path room, String name) throws IOException, ReflectiveOperationException {
        try (URLClassLoader loader = new URLClassLoader(new URL[] {room.toUri().toURL()})) {
            Method main = loader.loadClass(name).getMethod("main", String[].class);
            main.invoke(null, (Object) new String[0]);
        }
    }

    private static void remove(Path room) throws IOException {
        try (Stream<Path> all = Files.walk(room)) {
            all.sorted(Comparator.reverseOrder()).map(Path::toFile).forEach(File::delete);
        }
    }

    /** Every call stands in the list of calls with as many arguments as it has. */
    private static void calls(String text) {
        for (Method m : ServantRegistry.class.getDeclaredMethods()) {
            if (Modifier.isPublic(m.getModifiers())) {
                Matcher shown = Pattern.compile("\n\\|[^|]*`" + m.getName() + "\\(([^)`]*)\\)`").matcher(text);
                boolean found = shown.find();
                Check.due("listed: " + m.getName(), found, true);
                int arguments = !found || shown.group(1).isEmpty() ? 0 : shown.group(1).split(", ").length;
                Check.due("arguments listed of " + m.getName(), arguments, m.getParameterCount());
            }
        }
    }

    private static void tests(String text) throws IOException {
        Set<String> there = new TreeSet<>();
        try (Stream<Path> files = Files.list(TESTS)) {
            files.map(f -> f.getFileName().toString()).filter(f -> f.endsWith(".java"))
                    .forEach(f -> there.add(f.substring(0, f.length() - ".java".length())));
        }
        for (String test : there) {
            Check.due("named: " + test, text.contains("`" + test + "`"), true);
        }
        Matcher named = Pattern.compile("`(\\w+Test)`").matcher(text);
        while (named.find()) {
            Check.due("there: " + named.group(1), there.contains(named.group(1)), true);
        }
    }

    /** The one indented command behind the head "Tests" is the script that runs all tests. */
    private static void command(String text) throws IOException {
        Matcher named = Pattern.compile("\n## Tests\n\n {4}(\\S+)\n\n").matcher(text);
        boolean found = named.find();
        Check.due("a command for the tests is named", found, true);
        Path script = Path.of(found ? named.group(1) : ".");
        Check.due("it can be run: " + script, Files.isRegularFile(script) && Files.isExecutable(script), true);
        String lines = Files.isRegularFile(script) ? Files.readString(script) : "";
        Check.due("it runs the project's tests", lines.contains("src/test/java/*Test.java"), true);
        Check.due("it runs the shared tests", lines.contains("../shared") && lines.contains("/tests/*.java"), true);
    }
}
