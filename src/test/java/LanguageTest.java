import java.io.IOException;
import java.lang.reflect.Field;
import java.lang.reflect.Method;
import java.lang.reflect.Modifier;
import java.nio.file.Files;
import java.nio.file.Path;
import java.util.ArrayList;
import java.util.Arrays;
import java.util.List;
import java.util.TreeSet;

/** The document's face, and those rules of LANGUAGE.md that can be seen from the file and the compiled class. */
public final class LanguageTest {
    private static final Check check = new Check("LanguageTest");

    private static final String[] FACE = {
        "told(int)", "shaftAt(int,int)", "boreAt(int,int)", "gradeAt(int,int)", "sort(int,int)", "find(int,int)",
        "shaft(int,int)", "bore(int)", "takeShaft(int)", "takeBore(int)", "grade(int,int,int)", "putAway()",
        "batch(int)", "clear()", "undo(int)", "crowd(int)", "boxes(int)", "withBore(int)", "see(int,int,boolean)",
        "forget()", "seed(int)", "keep(int)", "goBack(int)"};
    private static final String[] CONSTANTS = {"NONE", "UNKNOWN", "OUTSIDE", "NOT", "FULL"};
    private static final String[] RULED_OUT = {
        "\\bpackage\\b", "\\bimport\\b", "\\bthrow\\b", "\\bthrows\\b", "\\btry\\b", "\\bcatch\\b", "\\bsynchronized\\b",
        "\\bassert\\b", "->", "::", "\\bjava\\.", "\\bdouble\\b", "\\bfloat\\b", "Exact\\b", "\\bstatic\\s*\\{"};

    public static void main(String[] args) throws IOException {
        face();
        noNameTwice();
        nestedClasses();
        fields();
        words();
        check.end();
    }

    private static List<Class<?>> classes() {
        List<Class<?>> all = new ArrayList<>();
        all.add(BoreSpans.class);
        all.addAll(Arrays.asList(BoreSpans.class.getDeclaredClasses()));
        return all;
    }

    private static void face() {
        check.due("public and final", BoreSpans.class.getModifiers(), Modifier.PUBLIC | Modifier.FINAL);
        TreeSet<String> methods = new TreeSet<>();
        for (Method m : BoreSpans.class.getDeclaredMethods()) {
            if (!Modifier.isPrivate(m.getModifiers())) {
                String parameters = Arrays.toString(Arrays.stream(m.getParameterTypes()).map(Class::getName).toArray());
                methods.add(m.getName() + "(" + parameters.substring(1, parameters.length() - 1).replace(" ", "") + ")");
                check.due(m + " answers an int", m.getReturnType() == int.class ? 1 : 0, 1);
                check.due(m + " is public alone", m.getModifiers(), Modifier.PUBLIC);
            }
        }
        check.due("the methods " + methods, methods.equals(new TreeSet<>(Arrays.asList(FACE))) ? 1 : 0, 1);
        TreeSet<String> constants = new TreeSet<>();
        for (Field f : BoreSpans.class.getDeclaredFields()) {
            if (!Modifier.isPrivate(f.getModifiers())) {
                constants.add(f.getName());
            }
        }
        check.due("the constants " + constants, constants.equals(new TreeSet<>(Arrays.asList(CONSTANTS))) ? 1 : 0, 1);
        check.due("constructors", BoreSpans.class.getDeclaredConstructors().length, 1);
    }

    private static void noNameTwice() {
        TreeSet<String> names = new TreeSet<>();
        for (String method : FACE) {
            names.add(method.substring(0, method.indexOf('(')));
        }
        for (Class<?> c : classes()) {
            for (Method m : c.getDeclaredMethods()) {
                boolean isFace = c == BoreSpans.class && Modifier.isPublic(m.getModifiers());
                check.due(m + " has a name of its own", isFace || !names.contains(m.getName()) ? 1 : 0, 1);
                check.due(m + " has seven parameters at most", m.getParameterCount() <= 7 ? 1 : 0, 1);
            }
        }
    }

    private static void nestedClasses() {
        check.due("twelve classes at most", classes().size() <= 12 ? 1 : 0, 1);
        for (Class<?> c : BoreSpans.class.getDeclaredClasses()) {
            check.due(c + " is static", Modifier.isStatic(c.getModifiers()) ? 1 : 0, 1);
            check.due(c + " is not public", Modifier.isPublic(c.getModifiers()) ? 1 : 0, 0);
        }
    }

    private static void fields() {
        for (Class<?> c : classes()) {
            int own = 0;
            for (Field f : c.getDeclaredFields()) {
                boolean isStatic = Modifier.isStatic(f.getModifiers());
                own += isStatic ? 0 : 1;
                check.due(f + " is final, if static", !isStatic || Modifier.isFinal(f.getModifiers()) ? 1 : 0, 1);
            }
            check.due(c + " has twenty fields at most", own <= 20 ? 1 : 0, 1);
        }
    }

    private static void words() throws IOException {
        String text = Files.readString(Path.of("src/main/java/BoreSpans.java"));
        String code = text.replaceAll("(?s)/\\*.*?\\*/", " ").replaceAll("//[^\n]*", " ");
        for (String word : RULED_OUT) {
            check.due("places of " + word, code.split(word, -1).length - 1, 0);
        }
        check.due("signs above 127", text.chars().filter(c -> c > 127).count(), 0);
    }
}
