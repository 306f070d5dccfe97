import java.io.IOException;
import java.lang.reflect.Method;
import java.lang.reflect.Modifier;
import java.nio.file.Files;
import java.nio.file.Path;
import java.util.List;
import java.util.Set;
import java.util.TreeSet;
import java.util.regex.Matcher;
import java.util.regex.Pattern;
import java.util.stream.Stream;

/** README.md says nothing that is not so: its lines of Java are run, and its names are looked for. */
final class ReadmeTest {
    private static final Checks CHECKS = new Checks();
    private static final Pattern MADE = Pattern.compile("PutOut house = new PutOut\\(\\);");
    private static final Pattern FED = Pattern.compile("\"([^\"]*)\"\\.chars\\(\\)\\.forEach\\(house::feed\\);");
    private static final Pattern CALL = Pattern.compile("house\\.(\\w+)\\(([^)]*)\\); +// (-?\\d+): .*");
    private static final Path TESTS = Path.of("src/test/java");

    public static void main(String[] args) throws IOException, ReflectiveOperationException {
        String page = Files.readString(Path.of("README.md"));
        example(page);
        Set<String> quoted = quoted(page);
        calls(quoted);
        classes(quoted);
        tests(quoted);
        CHECKS.end();
    }

    private static void example(String page) throws ReflectiveOperationException {
        PutOut house = new PutOut();
        int lines = 0;
        Matcher blocks = Pattern.compile("(?s)```java\n(.*?)```").matcher(page);
        while (blocks.find()) {
            for (String line : blocks.group(1).split("\n")) {
                lines++;
                Matcher fed = FED.matcher(line);
                Matcher call = CALL.matcher(line);
                if (fed.matches()) {
                    fed.group(1).chars().forEach(house::feed);
                } else if (call.matches()) {
                    CHECKS.due(line, answer(house, call.group(1), call.group(2)), Long.parseLong(call.group(3)));
                } else {
                    CHECKS.due("can't be run: " + line, MADE.matcher(line).matches() ? 1 : 0, 1);
                }
            }
        }
        CHECKS.due("an example stands there", lines > 10 ? 1 : 0, 1);
    }

    private static long answer(PutOut house, String name, String told) throws ReflectiveOperationException {
        List<Object> arguments = Stream.of(told.split(",")).map(String::trim).filter(a -> !a.isEmpty())
                .map(a -> (Object) (a.equals("PutOut.NONE") ? PutOut.NONE : Integer.parseInt(a))).toList();
        for (Method m : PutOut.class.getMethods()) {
            if (m.getName().equals(name) && m.getParameterCount() == arguments.size()) {
                return ((Number) m.invoke(house, arguments.toArray())).longValue();
            }
        }
        throw new NoSuchMethodException(name + " of " + arguments.size());
    }

    /** All that stands between ` and `, outside of the blocks. */
    private static Set<String> quoted(String page) {
        Set<String> all = new TreeSet<>();
        Matcher m = Pattern.compile("`([^`\n]+)`").matcher(page.replaceAll("(?s)```.*?```", ""));
        while (m.find()) {
            all.add(m.group(1));
        }
        return all;
    }

    private static void calls(Set<String> quoted) {
        for (Method m : PutOut.class.getDeclaredMethods()) {
            if (Modifier.isPublic(m.getModifiers())) {
                CHECKS.due("README.md names the call " + m.getName(), quoted.contains(m.getName()) ? 1 : 0, 1);
            }
        }
    }

    /** A name that begins as a class does is a class inside, or one of the tests. */
    private static void classes(Set<String> quoted) {
        Set<String> inside = new TreeSet<>();
        for (Class<?> c : PutOut.class.getDeclaredClasses()) {
            inside.add(c.getSimpleName());
            CHECKS.due("README.md names the class " + c.getSimpleName(), quoted.contains(c.getSimpleName()) ? 1 : 0, 1);
        }
        for (String name : quoted) {
            if (name.matches("[A-Z][a-z]\\w*")) {
                boolean stands = inside.contains(name) || Files.exists(TESTS.resolve(name + ".java"));
                CHECKS.due("there is " + name, stands ? 1 : 0, 1);
            }
        }
    }

    private static void tests(Set<String> quoted) throws IOException {
        try (Stream<Path> files = Files.list(TESTS)) {
            for (Path file : files.toList()) {
                String name = file.getFileName().toString().replace(".java", "");
                CHECKS.due("README.md names the test " + name, quoted.contains(name) ? 1 : 0, 1);
            }
        }
    }
}
