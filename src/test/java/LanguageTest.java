import java.io.IOException;
import java.lang.reflect.Constructor;
import java.lang.reflect.Field;
import java.lang.reflect.Method;
import java.lang.reflect.Modifier;
import java.nio.file.Files;
import java.nio.file.Path;
import java.util.Set;
import java.util.TreeSet;
import java.util.regex.Matcher;
import java.util.regex.Pattern;

/** Rules of LANGUAGE.md that can be seen in the text of the class, or by looking into it. */
final class LanguageTest {
    private static final Checks CHECKS = new Checks();
    private static final String FACE = "set(3) thing(3) put(2) told(2) feed(1) text(0) force(1) day(2) best(3) tidy(1) "
            + "once(1) week(1) dearest(1) give(0) seat(2) seen(2) film(2) drawn(1) chance(3) image(0) back(0) count(1) "
            + "sheet(3) cell(3) copy(5) things(4) taken(2)";

    public static void main(String[] args) throws IOException {
        String source = Files.readString(Path.of("src/main/java/PutOut.java"));
        String bare = source.replaceAll("(?s)/\\*.*?\\*/", "").replaceAll("//[^\n]*", "")
                .replaceAll("\"[^\"\n]*\"", "\"\"");
        words(bare);
        face();
        inside();
        lengths(bare);
        CHECKS.end();
    }

    private static void words(String bare) {
        String[] forbidden = {"\\bthrow\\b", "\\bthrows\\b", "\\btry\\b", "\\bcatch\\b", "\\bsynchronized\\b",
            "\\bassert\\b", "\\bpackage\\b", "->", "::", "\\bnew \\w+\\([^)]*\\) \\{", "\\bSystem\\.(?!arraycopy)",
            "Exact\\(", "\\bRandom\\b", "\\bThread\\b", "\\bhashCode\\b", "\\btoString\\b", "\\bwhile \\(true\\)",
            "\\bfor \\(;;", "\\bimport (?!java\\.util\\.(Arrays|ArrayList|List);)", "[^\\x00-\\x7f]"};
        for (String word : forbidden) {
            Matcher m = Pattern.compile(word).matcher(bare);
            CHECKS.due("rules 3 to 13: " + word, m.find() ? 1 : 0, 0);
        }
    }

    private static void face() {
        Set<String> seen = new TreeSet<>();
        for (Method m : PutOut.class.getDeclaredMethods()) {
            boolean isPublic = Modifier.isPublic(m.getModifiers());
            CHECKS.due("rule 1: " + m, isPublic || Modifier.isPrivate(m.getModifiers()) ? 1 : 0, 1);
            if (isPublic) {
                seen.add(m.getName() + "(" + m.getParameterCount() + ")");
            } else {
                CHECKS.due("rule 1: a name of the face " + m, (" " + FACE).contains(" " + m.getName() + "(") ? 1 : 0, 0);
            }
        }
        CHECKS.due("rule 1: the methods " + seen, seen.equals(new TreeSet<>(Set.of(FACE.split(" ")))) ? 1 : 0, 1);
        Set<String> constants = new TreeSet<>();
        for (Field f : PutOut.class.getDeclaredFields()) {
            boolean isPublic = Modifier.isPublic(f.getModifiers());
            CHECKS.due("rule 1: " + f, isPublic || Modifier.isPrivate(f.getModifiers()) ? 1 : 0, 1);
            if (isPublic) {
                constants.add(f.getName());
            }
        }
        CHECKS.due("rule 1: the constants " + constants,
                constants.equals(Set.of("NONE", "BAD", "STATE", "FULL", "NO")) ? 1 : 0, 1);
        Constructor<?>[] made = PutOut.class.getDeclaredConstructors();
        CHECKS.due("rule 1: constructors", made.length, 1);
        CHECKS.due("rule 1: the constructor", made[0].getParameterCount(), 0);
        CHECKS.due("rule 1: public and final", PutOut.class.getModifiers(), Modifier.PUBLIC | Modifier.FINAL);
    }

    private static void inside() {
        Class<?>[] classes = PutOut.class.getDeclaredClasses();
        CHECKS.due("rule 11: classes " + classes.length, classes.length <= 11 ? 1 : 0, 1);
        for (Class<?> c : classes) {
            CHECKS.due("rule 2: static " + c, Modifier.isStatic(c.getModifiers()) ? 1 : 0, 1);
            CHECKS.due("rule 1: not public " + c, c.getModifiers() & (Modifier.PUBLIC | Modifier.PROTECTED), 0);
            fields(c);
            for (Method m : c.getDeclaredMethods()) {
                CHECKS.due("rule 11: parameters of " + m, m.getParameterCount() <= 7 ? 1 : 0, 1);
                CHECKS.due("rule 1: a name of the face " + m, (" " + FACE).contains(" " + m.getName() + "(") ? 1 : 0, 0);
            }
        }
        fields(PutOut.class);
    }

    private static void fields(Class<?> c) {
        int own = 0;
        for (Field f : c.getDeclaredFields()) {
            if (Modifier.isStatic(f.getModifiers())) {
                CHECKS.due("rule 5: final " + f, Modifier.isFinal(f.getModifiers()) ? 1 : 0, 1);
            } else {
                own++;
            }
        }
        CHECKS.due("rule 11: fields of " + c, own <= 20 ? 1 : 0, 1);
    }

    /** A method begins by a line that ends with ") {" beside no word like if, and ends by its indent. */
    private static void lengths(String bare) {
        String[] lines = bare.split("\n");
        Pattern head = Pattern.compile("^( {4}| {8})(?!if|for|while|switch|\\})[\\w<].*\\) \\{$");
        for (int i = 0; i < lines.length; i++) {
            Matcher m = head.matcher(lines[i]);
            if (m.matches()) {
                int end = i;
                while (end < lines.length && !lines[end].equals(m.group(1) + "}")) {
                    end++;
                }
                CHECKS.due("rule 11: lines of " + lines[i].trim(), end - i < 60 ? 1 : 0, 1);
            }
        }
    }
}
