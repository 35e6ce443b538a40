import java.io.IOException;
import java.lang.reflect.Field;
import java.lang.reflect.Method;
import java.lang.reflect.Modifier;
import java.nio.file.Files;
import java.nio.file.Path;
import java.util.HashSet;
import java.util.List;
import java.util.Set;
import java.util.TreeSet;
import java.util.regex.Pattern;

/** The public face is the document's, and what LANGUAGE.md rules out by a word does not stand in the class. */
final class LanguageTest {
    private static final Checks CHECKS = new Checks();
    private static final Set<String> FACE = Set.of(
        "int town 4", "int ofBoy 2", "int owes 2", "int owe 3", "int bind 2", "int next 1", "int where 2",
        "int knows 3", "int able 1", "int ring 1", "int home 1", "int never 1", "int walk 5", "int forge 4",
        "int reading 3", "int exam 4", "int back 1", "int debts 2", "int bound 1", "int kinds 1", "long odds 4",
        "int sheet 3", "int lose 1", "int put 3", "long cell 3", "int copy 5", "int tell 1", "int call 1", "int as 2",
        "int trace 0", "int fault 0", "int many 1");
    private static final List<String> RULED_OUT = List.of("\\bthrow\\b", "\\bthrows\\b", "\\btry\\b", "\\bcatch\\b",
        "\\bsynchronized\\b", "\\bassert\\b", "->", "::", "\\bimport\\b", "\\bpackage\\b", "Exact\\b", "\\bstatic\\s*\\{",
        "\\bSystem\\.(?!arraycopy)", "\\bObject\\b", "\\bException\\b", "\\bvar\\b", "while\\s*\\(true\\)", "for\\s*\\(;;\\)");

    public static void main(String[] args) throws IOException {
        face();
        constants();
        words();
        CHECKS.end();
    }

    private static void face() {
        Set<String> found = new TreeSet<>();
        Set<String> names = new HashSet<>();
        for (Method method : SolsticeBoys.class.getDeclaredMethods()) {
            if (!Modifier.isPrivate(method.getModifiers())) {
                found.add(method.getReturnType() + " " + method.getName() + " " + method.getParameterCount());
                names.add(method.getName());
                CHECKS.isTrue(method + " is public and not static", method.getModifiers() == Modifier.PUBLIC);
            }
        }
        CHECKS.isTrue("the face is the document's: " + found, found.equals(FACE));
        CHECKS.due("constructors", SolsticeBoys.class.getDeclaredConstructors().length, 1);
        CHECKS.isTrue("public and final", SolsticeBoys.class.getModifiers() == (Modifier.PUBLIC | Modifier.FINAL));
        hidden(SolsticeBoys.class, names);
        for (Class<?> inside : SolsticeBoys.class.getDeclaredClasses()) {
            CHECKS.isTrue(inside + " is static", Modifier.isStatic(inside.getModifiers()));
            CHECKS.isTrue(inside + " is not public", !Modifier.isPublic(inside.getModifiers()));
            hidden(inside, names);
        }
    }

    private static void hidden(Class<?> type, Set<String> names) {
        for (Method method : type.getDeclaredMethods()) {
            CHECKS.isTrue(method + " takes seven at most", method.getParameterCount() <= 7);
            if (!Modifier.isPublic(method.getModifiers())) {
                CHECKS.isTrue(method + " bears a name of its own", !names.contains(method.getName()));
            }
        }
        for (Field field : type.getDeclaredFields()) {
            boolean constant = Modifier.isStatic(field.getModifiers());
            CHECKS.isTrue(field + " is final if static", !constant || Modifier.isFinal(field.getModifiers()));
            CHECKS.isTrue(field + " is private or a constant of the face",
                Modifier.isPrivate(field.getModifiers()) || constant && type == SolsticeBoys.class);
        }
    }

    private static void constants() {
        Set<String> found = new TreeSet<>();
        for (Field field : SolsticeBoys.class.getFields()) {
            found.add(field.getType() + " " + field.getName());
        }
        Set<String> want = Set.of("int UNKNOWN", "int OUTSIDE", "int STATE", "int FULL", "int NONE", "long LOST");
        CHECKS.isTrue("the constants are the document's: " + found, found.equals(want));
        CHECKS.due("UNKNOWN", SolsticeBoys.UNKNOWN, -1);
        CHECKS.due("OUTSIDE", SolsticeBoys.OUTSIDE, -2);
        CHECKS.due("STATE", SolsticeBoys.STATE, -3);
        CHECKS.due("FULL", SolsticeBoys.FULL, -4);
        CHECKS.due("NONE", SolsticeBoys.NONE, -9);
        CHECKS.due("LOST", SolsticeBoys.LOST, Long.MIN_VALUE);
    }

    private static void words() throws IOException {
        String source = Files.readString(Path.of("src/main/java/SolsticeBoys.java"));
        String code = source.replaceAll("(?s)/\\*.*?\\*/", " ").replaceAll("//[^\n]*", " ");
        for (String word : RULED_OUT) {
            CHECKS.isTrue("no " + word, !Pattern.compile(word).matcher(code).find());
        }
    }
}
