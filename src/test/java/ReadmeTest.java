import java.lang.reflect.Method;
import java.nio.file.Files;
import java.nio.file.Path;
import java.util.Set;
import java.util.TreeSet;
import java.util.regex.Matcher;
import java.util.regex.Pattern;

// README.md shows a run of calls with their answers, and names every call: both must be true of the class.
public final class ReadmeTest {
    private static final Path README = Path.of("README.md");
    private static final Pattern CALL = Pattern.compile("(?m)^x\\.(\\w+)\\(([^)]*)\\); +// (-?\\d+)\\b");
    private static int wrong = 0;

    public static void main(String[] args) throws ReflectiveOperationException, java.io.IOException {
        String text = Files.readString(README);
        int calls = run(text);
        long lines = text.lines().filter(line -> line.startsWith("x.")).count();
        must(calls > 0 && calls == lines, "each of " + lines + " calls is run with its answer: " + calls);
        names(text);
        System.out.println(wrong == 0 ? "README.md is true" : wrong + " things in README.md are not so");
        if (wrong != 0) {
            System.exit(1);
        }
    }

    private static void must(boolean holds, String what) {
        if (!holds) {
            wrong++;
            System.out.println("not so: " + what);
        }
    }

    private static int run(String text) throws ReflectiveOperationException {
        RestBounds x = new RestBounds();
        Matcher line = CALL.matcher(text);
        int calls = 0;
        while (line.find()) {
            calls++;
            String[] told = line.group(2).split(", ");
            Class<?>[] types = new Class<?>[told.length];
            Object[] values = new Object[told.length];
            for (int i = 0; i < told.length; i++) {
                types[i] = int.class;
                values[i] = told[i].equals("RestBounds.NONE") ? RestBounds.NONE : Integer.parseInt(told[i]);
            }
            Method call = RestBounds.class.getMethod(line.group(1), types);
            long got = ((Number) call.invoke(x, values)).longValue();
            must(got == Long.parseLong(line.group(3)), line.group() + " (it is " + got + ")");
        }
        return calls;
    }

    private static void names(String text) {
        Set<String> named = new TreeSet<>();
        Matcher name = Pattern.compile("`(\\w+)\\(").matcher(text);
        while (name.find()) {
            named.add(name.group(1));
        }
        Set<String> there = new TreeSet<>();
        for (Method each : RestBounds.class.getDeclaredMethods()) {
            if (java.lang.reflect.Modifier.isPublic(each.getModifiers())) {
                there.add(each.getName());
            }
        }
        must(named.equals(there), "the table has every call and no other: " + named);
    }
}
