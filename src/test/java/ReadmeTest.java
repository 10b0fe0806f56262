import java.lang.reflect.InvocationTargetException;
import java.lang.reflect.Method;
import java.nio.file.Files;
import java.nio.file.Path;
import java.util.TreeSet;
import java.util.regex.Matcher;
import java.util.regex.Pattern;
import java.util.stream.Stream;

/** What README.md says is so: each call of its examples answers as told there, and the tests are those it names. */
public final class ReadmeTest {
    private static final Pattern CALL = Pattern.compile("patrol\\.(\\w+)\\(([^)]*)\\);\\s*// (.*)");
    private static final Pattern NEW = Pattern.compile("BergPatrol patrol = new BergPatrol\\(\\);");
    private static final TreeSet<String> CALLED = new TreeSet<>();
    private static BergPatrol patrol = null;

    public static void main(String[] args) throws Exception {
        String readme = Files.readString(Path.of("README.md"));
        examples(readme);
        everyCallIsShown();
        everyCallHasARow(readme);
        namedTestsAreThose(readme);
        Check.same(".ci/run can be run", Files.isExecutable(Path.of(".ci/run")) && readme.contains(".ci/run"), true);
        Check.end();
    }

    private static void examples(String readme) throws Exception {
        Matcher block = Pattern.compile("(?s)```java\n(.*?)```").matcher(readme);
        while (block.find()) {
            for (String line : block.group(1).split("\n")) {
                example(line.trim());
            }
        }
    }

    private static void example(String line) throws Exception {
        Matcher call = CALL.matcher(line);
        if (NEW.matcher(line).matches()) {
            patrol = new BergPatrol();
        } else if (call.matches()) {
            CALLED.add(call.group(1));
            String due = call.group(3).replaceAll(":.*", "");
            String got = answer(call.group(1), call.group(2));
            if (!got.equals("nothing")) {
                Check.same(line, got, due);
            }
        } else {
            Check.same("an example", line, "");
        }
    }

    private static Method named(String name) {
        for (Method m : BergPatrol.class.getMethods()) {
            if (m.getName().equals(name)) {
                return m;
            }
        }
        throw new IllegalStateException("README.md calls " + name);
    }

    private static String answer(String name, String told) throws Exception {
        Method m = named(name);
        String[] words = told.isEmpty() ? new String[0] : told.split(", ");
        Object[] arguments = new Object[words.length];
        for (int i = 0; i < words.length; i++) {
            boolean number = m.getParameterTypes()[i] == int.class;
            arguments[i] = number ? (Object) Integer.decode(words[i]) : (Object) Boolean.valueOf(words[i]);
        }
        try {
            Object got = m.invoke(patrol, arguments);
            return m.getReturnType() == void.class ? "nothing" : String.valueOf(got);
        } catch (InvocationTargetException e) {
            return "throws " + e.getCause().getClass().getSimpleName();
        }
    }

    private static TreeSet<String> face() {
        TreeSet<String> names = new TreeSet<>();
        for (Method m : BergPatrol.class.getDeclaredMethods()) {
            if (java.lang.reflect.Modifier.isPublic(m.getModifiers())) {
                names.add(m.getName());
            }
        }
        return names;
    }

    private static void everyCallIsShown() {
        Check.same("the calls of the examples", CALLED.toString(), face().toString());
    }

    /** A row begins with its call, as the class writes it but for the types. */
    private static void everyCallHasARow(String readme) throws Exception {
        TreeSet<String> due = new TreeSet<>();
        String source = Files.readString(Path.of("src/main/java/BergPatrol.java"));
        Matcher method = Pattern.compile("    public \\w+ (\\w+\\([^)]*\\))").matcher(source);
        while (method.find()) {
            due.add(method.group(1).replaceAll("(int|boolean) ", ""));
        }
        TreeSet<String> got = new TreeSet<>();
        Matcher row = Pattern.compile("(?m)^\\| `(\\w+\\([^`]*\\))` \\|").matcher(readme);
        while (row.find()) {
            got.add(row.group(1));
        }
        Check.same("the calls that have a row", got.toString(), due.toString());
        Check.same("how many calls have a row", got.size(), face().size());
    }

    private static void namedTestsAreThose(String readme) throws Exception {
        TreeSet<String> due = new TreeSet<>();
        try (Stream<Path> files = Files.list(Path.of("src/test/java"))) {
            files.forEach(file -> due.add(file.getFileName().toString().replace(".java", "")));
        }
        TreeSet<String> got = new TreeSet<>();
        Matcher row = Pattern.compile("(?m)^\\| `(\\w+Test)` \\|").matcher(readme);
        while (row.find()) {
            got.add(row.group(1));
        }
        Check.same("the tests that have a row", got.toString(), due.toString());
    }
}
