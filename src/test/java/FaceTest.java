import java.io.IOException;
import java.lang.reflect.Field;
import java.lang.reflect.Method;
import java.lang.reflect.Modifier;
import java.nio.file.Files;
import java.nio.file.Path;
import java.util.Arrays;
import java.util.Set;
import java.util.TreeSet;
import java.util.regex.Matcher;
import java.util.regex.Pattern;

/** The public face of the document, and rules 1 to 6 and 11 of LANGUAGE.md, as far as they can be seen from outside. */
public final class FaceTest {
    private static final String[] METHODS = {"line/1", "door/1", "tank/5", "follow/4", "grace/2", "rate/2", "price/2",
        "wish/4", "push/4", "trial/4", "undo/0", "wait/1", "at/2", "batch/2", "tankOf/3", "about/2", "wished/2",
        "count/1", "borders/0"};
    private static final String[] CONSTANTS = {"NONE", "BAD", "STATE", "FULL"};
    private static final String FORBIDDEN =
        "\\b(throw|throws|try|catch|synchronized|assert|Exact|package|protected|var|instanceof|Object|double|float)\\b"
        + "|->|::|\\bnew \\w+\\(\\) *\\{|\\[\\]\\[\\]";
    private static final Set<String> LIBRARY =
        Set.of("System.arraycopy", "Arrays.fill", "Math.max", "Math.min", "Math.floorMod");
    private static final int LONGEST_METHOD = 60;

    public static void main(String[] args) throws IOException {
        theClass();
        constants();
        methods();
        documentsFace();
        nested();
        source();
        library();
        lengths();
        Check.end();
    }

    private static void theClass() {
        int mod = OilLine.class.getModifiers();
        Check.holds("public and final", Modifier.isPublic(mod) && Modifier.isFinal(mod));
        Check.due("constructors", OilLine.class.getDeclaredConstructors().length, 1);
        Check.due("public constructors", OilLine.class.getConstructors().length, 1);
    }

    private static void constants() {
        Check.due("NONE", OilLine.NONE, -1);
        Check.due("BAD", OilLine.BAD, -2);
        Check.due("STATE", OilLine.STATE, -3);
        Check.due("FULL", OilLine.FULL, -4);
        for (Field field : OilLine.class.getDeclaredFields()) {
            boolean told = Arrays.asList(CONSTANTS).contains(field.getName());
            int mod = field.getModifiers();
            Check.holds("seen: " + field, told ? Modifier.isPublic(mod) : Modifier.isPrivate(mod));
            Check.holds("static is final: " + field, !Modifier.isStatic(mod) || Modifier.isFinal(mod));
        }
    }

    private static void methods() {
        TreeSet<String> due = new TreeSet<>(Arrays.asList(METHODS));
        TreeSet<String> seen = new TreeSet<>();
        for (Method method : OilLine.class.getDeclaredMethods()) {
            int mod = method.getModifiers();
            Check.holds("at most seven parameters: " + method, method.getParameterCount() <= 7);
            if (Modifier.isPrivate(mod)) {
                Check.holds("a name of its own: " + method, !isNameOfFace(method.getName()));
                continue;
            }
            Check.holds("public: " + method, Modifier.isPublic(mod) && !Modifier.isStatic(mod));
            Check.holds("answers int: " + method, method.getReturnType() == int.class);
            for (Class<?> type : method.getParameterTypes()) {
                Check.holds("takes int: " + method, type == int.class);
            }
            seen.add(method.getName() + "/" + method.getParameterCount());
        }
        Check.holds("the methods are " + seen, seen.equals(due));
    }

    /** The names above are those of the document's own Java. */
    private static void documentsFace() throws IOException {
        Path document = Path.of("../shared/DOC.md");
        if (!Files.exists(document)) {
            return;
        }
        TreeSet<String> told = new TreeSet<>();
        Matcher found = Pattern.compile("\n    public int (\\w+)\\(([^)]*)\\);").matcher(Files.readString(document));
        while (found.find()) {
            int parameters = found.group(2).isEmpty() ? 0 : found.group(2).split(",").length;
            told.add(found.group(1) + "/" + parameters);
        }
        Check.holds("the document's methods are " + told, told.equals(new TreeSet<>(Arrays.asList(METHODS))));
    }

    private static boolean isNameOfFace(String name) {
        for (String method : METHODS) {
            if (method.startsWith(name + "/")) {
                return true;
            }
        }
        return false;
    }

    private static void nested() {
        Class<?>[] inside = OilLine.class.getDeclaredClasses();
        Check.holds("at most twelve classes", inside.length + 1 <= 12);
        for (Class<?> one : inside) {
            Check.holds("static: " + one, Modifier.isStatic(one.getModifiers()));
            Check.holds("not public: " + one, !Modifier.isPublic(one.getModifiers()));
            Check.holds("at most twenty fields: " + one, one.getDeclaredFields().length <= 20);
            for (Method method : one.getDeclaredMethods()) {
                Check.holds("at most seven parameters: " + method, method.getParameterCount() <= 7);
                Check.holds("a name of its own: " + method, !isNameOfFace(method.getName()));
            }
        }
    }

    /** The class without its comments. */
    private static String code() throws IOException {
        String text = Files.readString(Path.of("src/main/java/OilLine.java"));
        Check.holds("plain signs alone", text.chars().allMatch(c -> c == '\n' || c >= 32 && c < 127));
        return text.replaceAll("(?s)/\\*.*?\\*/", "").replaceAll("//[^\n]*", "");
    }

    private static void source() throws IOException {
        String code = code();
        Matcher found = Pattern.compile(FORBIDDEN).matcher(code);
        while (found.find()) {
            Check.holds("forbidden: " + found.group(), false);
        }
        Matcher imports = Pattern.compile("import ([^;]*);").matcher(code);
        while (imports.find()) {
            Check.holds("import: " + imports.group(1), imports.group(1).equals("java.util.Arrays"));
        }
    }

    /** Rule 4: of the library nothing is called but what stands above, which the rule allows. */
    private static void library() throws IOException {
        Matcher called = Pattern.compile("\\b[A-Z]\\w*\\.\\w+(?=\\()").matcher(code());
        while (called.find()) {
            Check.holds("of the library: " + called.group(), LIBRARY.contains(called.group()));
        }
    }

    /** Rule 11: a method begins and ends with its own indent. */
    private static void lengths() throws IOException {
        int methods = 0;
        int began = 0;
        String indent = "";
        String[] lines = code().split("\n");
        for (int i = 0; i < lines.length; i++) {
            if (lines[i].matches(" +[^=;]*\\) \\{") && !lines[i].matches(" +(if|for|while|switch|\\}).*")) {
                methods++;
                began = i;
                indent = lines[i].substring(0, lines[i].indexOf(lines[i].trim()));
            } else if (lines[i].equals(indent + "}")) {
                Check.holds("short: " + lines[began].trim(), i - began + 1 <= LONGEST_METHOD);
            }
        }
        Check.holds("methods were seen: " + methods, methods > METHODS.length);
    }
}
