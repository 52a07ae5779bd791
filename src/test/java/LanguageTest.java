import java.io.IOException;
import java.lang.reflect.Constructor;
import java.lang.reflect.Field;
import java.lang.reflect.Method;
import java.lang.reflect.Modifier;
import java.nio.file.Files;
import java.nio.file.Path;
import java.util.ArrayList;
import java.util.Arrays;
import java.util.List;
import java.util.TreeMap;
import java.util.TreeSet;
import java.util.regex.Matcher;
import java.util.regex.Pattern;

/** The document's face, and those rules of LANGUAGE.md that can be seen from the file and the compiled class. */
public final class LanguageTest {
    private static final Check check = new Check("LanguageTest");

    private static final String[] RULED_OUT = {
        "\\bpackage\\b", "\\bimport\\b", "\\bthrow\\b", "\\bthrows\\b", "\\btry\\b", "\\bcatch\\b", "\\bsynchronized\\b",
        "\\bassert\\b", "->", "::", "while \\(true\\)", ";;", "\\bjava\\.", "\\bdouble\\b", "\\bfloat\\b", "Exact\\b",
        "\\bstatic\\s*\\{"};
    /** What of the library the class uses; LANGUAGE.md lists more. */
    private static final List<String> LIBRARY = List.of("Math.min", "Math.max", "Math.floorMod", "System.arraycopy");
    private static final int MOST_LINES_OF_A_METHOD = 60;

    public static void main(String[] args) throws IOException, IllegalAccessException {
        TreeSet<String> methods = new TreeSet<>();
        TreeMap<String, Integer> constants = new TreeMap<>();
        readFace(methods, constants);
        face(methods);
        constants(constants);
        noNameTwice(methods);
        nestedClasses();
        fields();
        words();
        library();
        shortMethods();
        check.end();
    }

    /** The members that the document's block of Java names. */
    private static void readFace(TreeSet<String> methods, TreeMap<String, Integer> constants) throws IOException {
        String document = Files.readString(Path.of("../shared/DOC.md"));
        int from = document.indexOf("```java\n");
        String block = document.substring(from, document.indexOf("```", from + 3));
        Matcher method = Pattern.compile("public int (\\w+)\\(([^)]*)\\);").matcher(block);
        while (method.find()) {
            methods.add(method.group(1) + "(" + method.group(2).replaceAll("(int|boolean) \\w+", "$1").replace(" ", "") + ")");
        }
        Matcher constant = Pattern.compile("([A-Z]+) = (-\\d+)").matcher(block);
        while (constant.find()) {
            constants.put(constant.group(1), Integer.valueOf(constant.group(2)));
        }
        check.due("methods of the document", methods.size(), 23);
        check.due("constants of the document", constants.size(), 5);
    }

    private static List<Class<?>> classes() {
        List<Class<?>> all = new ArrayList<>();
        all.add(BoreSpans.class);
        all.addAll(Arrays.asList(BoreSpans.class.getDeclaredClasses()));
        return all;
    }

    private static void face(TreeSet<String> due) {
        check.due("public and final", BoreSpans.class.getModifiers(), Modifier.PUBLIC | Modifier.FINAL);
        TreeSet<String> methods = new TreeSet<>();
        for (Method m : BoreSpans.class.getDeclaredMethods()) {
            if (!Modifier.isPrivate(m.getModifiers())) {
                String parameters = Arrays.toString(Arrays.stream(m.getParameterTypes()).map(Class::getName).toArray());
                methods.add(m.getName() + "(" + parameters.substring(1, parameters.length() - 1).replace(" ", "") + ")");
                check.due(m + " answers an int", m.getReturnType() == int.class ? 1 : 0, 1);
                check.due(m + " is public alone", m.getModifiers(), Modifier.PUBLIC);
            }
        }
        check.holds("the methods " + methods, methods.equals(due));
        check.due("constructors", BoreSpans.class.getDeclaredConstructors().length, 1);
        Constructor<?> made = BoreSpans.class.getDeclaredConstructors()[0];
        check.due("the constructor is public", made.getModifiers(), Modifier.PUBLIC);
        check.due("the constructor's parameters", made.getParameterCount(), 0);
    }

    private static void constants(TreeMap<String, Integer> due) throws IllegalAccessException {
        TreeMap<String, Integer> constants = new TreeMap<>();
        for (Field f : BoreSpans.class.getDeclaredFields()) {
            if (!Modifier.isPrivate(f.getModifiers())) {
                constants.put(f.getName(), f.getInt(null));
                check.due(f + " is a constant", f.getModifiers(), Modifier.PUBLIC | Modifier.STATIC | Modifier.FINAL);
            }
        }
        check.holds("the constants " + constants, constants.equals(due));
    }

    private static void noNameTwice(TreeSet<String> face) {
        TreeSet<String> names = new TreeSet<>();
        for (String method : face) {
            names.add(method.substring(0, method.indexOf('(')));
        }
        for (Class<?> c : classes()) {
            for (Method m : c.getDeclaredMethods()) {
                boolean isFace = c == BoreSpans.class && Modifier.isPublic(m.getModifiers());
                check.due(m + " has a name of its own", isFace || !names.contains(m.getName()) ? 1 : 0, 1);
                check.due(m + " has seven parameters at most", m.getParameterCount() <= 7 ? 1 : 0, 1);
            }
        }
    }

    private static void nestedClasses() {
        check.due("twelve classes at most", classes().size() <= 12 ? 1 : 0, 1);
        for (Class<?> c : BoreSpans.class.getDeclaredClasses()) {
            check.due(c + " is static", Modifier.isStatic(c.getModifiers()) ? 1 : 0, 1);
            check.due(c + " is not public", Modifier.isPublic(c.getModifiers()) ? 1 : 0, 0);
        }
    }

    private static void fields() {
        for (Class<?> c : classes()) {
            int own = 0;
            for (Field f : c.getDeclaredFields()) {
                boolean isStatic = Modifier.isStatic(f.getModifiers());
                own += isStatic ? 0 : 1;
                check.due(f + " is final, if static", !isStatic || Modifier.isFinal(f.getModifiers()) ? 1 : 0, 1);
            }
            check.due(c + " has twenty fields at most", own <= 20 ? 1 : 0, 1);
        }
    }

    private static String text() throws IOException {
        return Files.readString(Path.of("src/main/java/BoreSpans.java"));
    }

    private static String withoutComments() throws IOException {
        return text().replaceAll("(?s)/\\*.*?\\*/", " ").replaceAll("//[^\n]*", " ");
    }

    private static void words() throws IOException {
        String code = withoutComments();
        for (String word : RULED_OUT) {
            check.due("places of " + word, code.split(word, -1).length - 1, 0);
        }
        check.due("signs above 127", text().chars().filter(c -> c > 127).count(), 0);
    }

    private static void library() throws IOException {
        Matcher use = Pattern.compile("\\b[A-Z]\\w*\\.\\w+").matcher(withoutComments());
        while (use.find()) {
            check.holds(use.group() + " may be used", LIBRARY.contains(use.group()));
        }
    }

    /** A method begins on a line with its bracket and ends with a bracket that stands as far in. */
    private static void shortMethods() throws IOException {
        String[] lines = text().split("\n");
        int methods = 0;
        for (int from = 0; from < lines.length; from++) {
            Matcher head = Pattern.compile("( {4}| {8})\\w[^=]*\\) \\{").matcher(lines[from]);
            if (head.matches() && !lines[from].strip().matches("(for|if|while|switch) .*")) {
                int to = from;
                while (to < lines.length && !lines[to].equals(head.group(1) + "}")) {
                    to++;
                }
                check.holds(lines[from].strip() + " is short", to - from < MOST_LINES_OF_A_METHOD);
                methods++;
            }
        }
        check.holds("methods were found", methods > 60);
    }
}
