import java.io.IOException;
import java.io.PrintStream;
import java.lang.reflect.Method;
import java.lang.reflect.Modifier;
import java.net.URL;
import java.net.URLClassLoader;
import java.nio.file.Files;
import java.nio.file.Path;
import java.util.ArrayList;
import java.util.List;
import java.util.regex.Matcher;
import java.util.regex.Pattern;
import javax.tools.ToolProvider;

/** README.md: its examples answer what they say, and it names each call, each constant and each test. */
public final class ReadmeTest {
    private static final Path README = Path.of("README.md");
    /** A call of an example with the answer it tells: "int b = x.door(8);   // 1, a door at its end". */
    private static final Pattern TOLD =
        Pattern.compile("^(?:int (\\w+) = )?(x\\.\\w+\\(.*\\)); +// (-?\\d+|[A-Z]+)\\b.*");

    public static void main(String[] args) throws IOException, ReflectiveOperationException {
        String text = Files.readString(README);
        examples(text);
        calls(text);
        constants(text);
        tests(text);
        Check.end();
    }

    private static void examples(String text) throws IOException, ReflectiveOperationException {
        List<String> blocks = blocks(text);
        Check.holds("there is an example", !blocks.isEmpty());
        Path out = Files.createTempDirectory("readme");
        StringBuilder source = new StringBuilder("public final class Example {\n");
        int told = 0;
        for (int i = 0; i < blocks.size(); i++) {
            source.append("static void run").append(i).append("() {\n");
            for (String line : blocks.get(i).split("\n")) {
                String checked = checked(line);
                told += checked.equals(line) ? 0 : 1;
                source.append(checked).append('\n');
            }
            source.append("}\n");
        }
        source.append("}\n");
        Check.holds("the examples tell answers", told > 20);
        runAll(source.toString(), out, blocks.size());
    }

    /** The Java blocks of README.md. */
    private static List<String> blocks(String text) {
        List<String> blocks = new ArrayList<>();
        Matcher found = Pattern.compile("(?s)```java\n(.*?)```").matcher(text);
        while (found.find()) {
            blocks.add(found.group(1));
        }
        return blocks;
    }

    private static String checked(String line) {
        Matcher found = TOLD.matcher(line);
        if (!found.matches()) {
            return line;
        }
        String answer = found.group(3).matches("[A-Z]+") ? "OilLine." + found.group(3) : found.group(3);
        String call = found.group(2);
        String quoted = "\"README: " + call + "\"";
        if (found.group(1) == null) {
            return "ReadmeTest.due(" + quoted + ", " + call + ", " + answer + ");";
        }
        String name = found.group(1);
        return "int " + name + " = " + call + "; ReadmeTest.due(" + quoted + ", " + name + ", " + answer + ");";
    }

    /** The example is loaded by another loader, which can reach public members alone. */
    public static void due(String call, int got, int want) {
        Check.due(call, got, want);
    }

    private static void runAll(String source, Path out, int blocks) throws IOException, ReflectiveOperationException {
        Path file = Files.writeString(out.resolve("Example.java"), source);
        String path = System.getProperty("java.class.path");
        var compiler = ToolProvider.getSystemJavaCompiler();
        Check.holds("there is a compiler", compiler != null);
        PrintStream log = System.out;
        int failed = compiler.run(null, log, log, "-cp", path, "-d", out.toString(), file.toString());
        Check.due("the examples compile", failed, 0);
        if (failed != 0) {
            System.out.println(source);
            return;
        }
        try (URLClassLoader loader = new URLClassLoader(new URL[] {out.toUri().toURL()})) {
            Class<?> example = loader.loadClass("Example");
            for (int i = 0; i < blocks; i++) {
                Method run = example.getDeclaredMethod("run" + i);
                run.setAccessible(true);
                run.invoke(null);
            }
        }
        Files.delete(out.resolve("Example.class"));
        Files.delete(file);
        Files.delete(out);
    }

    private static void calls(String text) {
        for (Method method : OilLine.class.getDeclaredMethods()) {
            if (Modifier.isPublic(method.getModifiers())) {
                Matcher row = Pattern.compile("\n\\| `" + method.getName() + "\\(([^)]*)\\)` \\|").matcher(text);
                boolean isThere = row.find();
                Check.holds("README tells of " + method.getName(), isThere);
                if (isThere) {
                    int told = row.group(1).isEmpty() ? 0 : row.group(1).split(",").length;
                    Check.due("parameters of " + method.getName(), told, method.getParameterCount());
                }
            }
        }
    }

    private static void constants(String text) {
        String[] names = {"NONE", "BAD", "STATE", "FULL"};
        int[] values = {OilLine.NONE, OilLine.BAD, OilLine.STATE, OilLine.FULL};
        for (int i = 0; i < names.length; i++) {
            Check.holds("README tells of " + names[i], text.contains("| `" + names[i] + "` | " + values[i] + " |"));
        }
    }

    private static void tests(String text) throws IOException {
        List<String> classes = SentencesTest.testClasses();
        for (String name : classes) {
            Check.holds("README tells of " + name, text.contains("\n| `" + name + "` |"));
        }
        Matcher named = Pattern.compile("\n\\| `(\\w+Test)` \\|").matcher(text);
        while (named.find()) {
            Check.holds("there is a " + named.group(1), classes.contains(named.group(1)));
        }
    }
}
