import java.io.IOException;
import java.lang.reflect.Method;
import java.nio.file.Files;
import java.nio.file.Path;
import java.util.Set;
import java.util.TreeSet;
import java.util.regex.Matcher;
import java.util.regex.Pattern;

/** The examples of README.md, row by row: each call must answer what the row says behind it. */
public final class ReadmeTests {
    private static final Pattern CALL = Pattern.compile("cuts\\.(\\w+)\\(([-\\d, ]*)\\); +// (-?\\d+): .+");
    private static final Pattern TYPED = Pattern.compile("type\\(\"([^\"]*)\"\\);.*");
    private static int wrong = 0;
    private static int calls = 0;

    private static void hold(boolean holds, String what) {
        if (!holds) {
            wrong++;
            System.out.println("README.md: " + what);
        }
    }

    private static long answer(StrokeCuts cuts, String name, String arguments) throws ReflectiveOperationException {
        String[] told = arguments.isBlank() ? new String[0] : arguments.split(", *");
        for (Method m : StrokeCuts.class.getMethods()) {
            if (m.getName().equals(name) && m.getParameterCount() == told.length) {
                Object[] values = new Object[told.length];
                for (int i = 0; i < told.length; i++) {
                    boolean isLong = m.getParameterTypes()[i] == long.class;
                    values[i] = isLong ? (Object) Long.valueOf(told[i]) : (Object) Integer.valueOf(told[i]);
                }
                return ((Number) m.invoke(cuts, values)).longValue();
            }
        }
        throw new NoSuchMethodException(name + " with " + told.length + " numbers");
    }

    private static void example(String block) throws ReflectiveOperationException {
        StrokeCuts cuts = null;
        for (String line : block.split("\n")) {
            Matcher call = CALL.matcher(line), typed = TYPED.matcher(line);
            if (line.startsWith("StrokeCuts cuts = new StrokeCuts();")) {
                cuts = new StrokeCuts();
            } else if (cuts != null && call.matches()) {
                calls++;
                long got = answer(cuts, call.group(1), call.group(2));
                hold(got == Long.parseLong(call.group(3)), line + " answered " + got);
            } else if (cuts != null && typed.matches()) {
                for (char c : typed.group(1).toCharArray()) {
                    cuts.type(c);
                }
            } else {
                hold(line.isBlank(), "a row that can't be run: " + line);
            }
        }
    }

    private static void everyCallIsNamed(String text) {
        Set<String> missing = new TreeSet<>();
        for (Method m : StrokeCuts.class.getDeclaredMethods()) {
            if (java.lang.reflect.Modifier.isPublic(m.getModifiers()) && !text.contains("`" + m.getName() + "`")) {
                missing.add(m.getName());
            }
        }
        hold(missing.isEmpty(), "calls that are not named: " + missing);
    }

    private static void everyTestIsNamed(String text) throws IOException {
        try (var files = Files.list(Path.of("src/test/java"))) {
            files.map(file -> file.getFileName().toString()).filter(name -> name.endsWith("Tests.java"))
                .forEach(name -> hold(text.contains(name.endsWith("EdgeTests.java") ? "*EdgeTests.java" : name), name + " is not named"));
        }
        hold(text.contains("    .ci/run\n"), "how the tests are run is not told");
    }

    public static void main(String[] args) throws IOException, ReflectiveOperationException {
        String text = Files.readString(Path.of("README.md"));
        Matcher block = Pattern.compile("(?s)```java\n(.*?)```").matcher(text);
        while (block.find()) {
            example(block.group(1));
        }
        hold(calls > 20, "the examples are found, but only " + calls + " calls");
        everyCallIsNamed(text);
        everyTestIsNamed(text);
        System.out.println(wrong == 0 ? "all rows of README.md hold" : wrong + " rows of README.md do not hold");
        if (wrong != 0) {
            System.exit(1);
        }
    }
}
