import java.io.IOException;
import java.lang.reflect.Method;
import java.lang.reflect.Modifier;
import java.nio.file.Files;
import java.nio.file.Path;
import java.util.ArrayList;
import java.util.List;

/**
 * src/test/SENTENCES.md leaves nothing of the document out, names tests that are there, and each test that is there is
 * run by its main method. Where the document is not to be found, only the last two are looked at.
 */
public final class SentencesTest {
    private static final Path DOCUMENT = Path.of("../shared/DOC.md");
    private static final Path LIST = Path.of("src/test/SENTENCES.md");
    private static final Path TESTS = Path.of("src/test/java");

    public static void main(String[] args) throws IOException {
        List<String[]> rows = rows();
        Check.holds("there are rows", rows.size() > 100);
        if (Files.exists(DOCUMENT)) {
            nothingIsLeftOut(rows);
        }
        testsAreThere(rows);
        eachTestIsRun();
        Check.end();
    }

    /** Of each row of a table the sentence and the tests. */
    private static List<String[]> rows() throws IOException {
        List<String[]> rows = new ArrayList<>();
        for (String line : Files.readAllLines(LIST)) {
            boolean isRow = line.startsWith("| ") && line.endsWith(" |") && !line.startsWith("| sentence |");
            if (isRow) {
                int middle = line.lastIndexOf(" | ");
                rows.add(new String[] {line.substring(2, middle), line.substring(middle + 3, line.length() - 2)});
            }
        }
        return rows;
    }

    private static void nothingIsLeftOut(List<String[]> rows) throws IOException {
        String left = prose();
        for (String[] row : rows) {
            boolean isNext = left.startsWith(row[0]);
            Check.holds("the document goes on with: " + row[0], isNext);
            if (!isNext) {
                System.out.println("it goes on with: " + left.substring(0, Math.min(90, left.length())));
                return;
            }
            left = left.substring(row[0].length()).trim();
        }
        Check.holds("nothing is left: " + left, left.isEmpty());
    }

    /** The document without headings, fences and the Java of the public face, in one line. */
    private static String prose() throws IOException {
        StringBuilder text = new StringBuilder();
        boolean isJava = false;
        for (String line : Files.readAllLines(DOCUMENT)) {
            if (line.startsWith("```")) {
                isJava = line.equals("```java");
            } else if (!isJava && !line.startsWith("#")) {
                text.append(line).append(' ');
            }
        }
        return text.toString().replaceAll("\\s+", " ").trim();
    }

    private static void testsAreThere(List<String[]> rows) {
        for (String[] row : rows) {
            boolean hasReason = row[1].startsWith("(") && row[1].endsWith(")");
            Check.holds("a test or a reason: " + row[0], hasReason || !row[1].isBlank());
            if (!hasReason) {
                for (String name : row[1].split(" ")) {
                    Check.holds("a test: " + name, isTest(name));
                }
            }
        }
    }

    private static boolean isTest(String name) {
        int dot = name.indexOf('.');
        if (dot < 0) {
            return false;
        }
        try {
            Class<?> test = Class.forName(name.substring(0, dot) + "Test");
            return isTest(test.getDeclaredMethod(name.substring(dot + 1)));
        } catch (ReflectiveOperationException none) {
            return false;
        }
    }

    private static boolean isTest(Method method) {
        boolean isStatic = Modifier.isStatic(method.getModifiers());
        return isStatic && method.getReturnType() == void.class && method.getParameterCount() == 0;
    }

    private static void eachTestIsRun() throws IOException {
        for (String name : testClasses()) {
            String source = Files.readString(TESTS.resolve(name + ".java"));
            for (Method method : classOf(name).getDeclaredMethods()) {
                if (isTest(method) && !method.isSynthetic()) {
                    boolean isCalled = source.contains("        " + method.getName() + "();");
                    Check.holds(name + "." + method.getName() + " is run", isCalled);
                }
            }
        }
    }

    static List<String> testClasses() throws IOException {
        List<String> names = new ArrayList<>();
        try (var files = Files.newDirectoryStream(TESTS, "*Test.java")) {
            for (Path file : files) {
                names.add(file.getFileName().toString().replace(".java", ""));
            }
        }
        return names;
    }

    private static Class<?> classOf(String name) {
        try {
            return Class.forName(name);
        } catch (ClassNotFoundException none) {
            Check.holds("a class: " + name, false);
            return SentencesTest.class;
        }
    }
}
