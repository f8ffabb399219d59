import java.lang.reflect.Method;
import java.nio.file.Files;
import java.nio.file.Path;
import java.util.HashMap;
import java.util.Map;
import java.util.Set;
import java.util.TreeSet;
import java.util.regex.Matcher;
import java.util.regex.Pattern;

/** The example of README.md, call by call: each answers what stands behind it there, and every call comes in it. */
public final class ReadmeTest {
    private static final Pattern CALL =
        Pattern.compile("(?:int (\\w+) = )?r\\.(\\w+)\\(([^)]*)\\);\\s*// (-?\\d+)(?::.*)?");
    private static final String MAKE = "RankRoster r = new RankRoster();";

    private static final Map<String, Integer> names = new HashMap<>();
    private static final Set<String> called = new TreeSet<>();
    private static int wrong = 0;

    public static void main(String[] args) throws Exception {
        String readme = Files.readString(Path.of("README.md"));
        RankRoster r = new RankRoster();
        for (String row : example(readme).split("\n")) {
            if (!row.isBlank() && !row.equals(MAKE)) {
                tryRow(r, row);
            }
        }
        for (Method method : RankRoster.class.getDeclaredMethods()) {
            if (java.lang.reflect.Modifier.isPublic(method.getModifiers())) {
                demand(called.contains(method.getName()), "the example has no " + method.getName() + "()");
                demand(readme.contains("| `" + method.getName() + "("), "the table has no " + method.getName() + "()");
            }
        }
        System.out.println(wrong == 0 ? "README.md tells what the class does" : wrong + " rows are not as due");
        if (wrong != 0) {
            System.exit(1);
        }
    }

    private static void demand(boolean held, String what) {
        if (!held) {
            wrong++;
            System.out.println(what);
        }
    }

    private static String example(String readme) {
        int start = readme.indexOf("```java\n") + 8;
        int end = readme.indexOf("```", start);
        demand(start >= 8 && end > start, "there is no example");
        return start >= 8 && end > start ? readme.substring(start, end) : "";
    }

    private static void tryRow(RankRoster r, String row) throws Exception {
        Matcher parts = CALL.matcher(row);
        if (!parts.matches()) {
            demand(false, "not a call with its answer: " + row);
            return;
        }
        int due = Integer.parseInt(parts.group(4));
        int got = answer(r, parts.group(2), parts.group(3));
        demand(got == due, row + " answered " + got);
        if (parts.group(1) != null) {
            names.put(parts.group(1), got);
        }
    }

    private static int answer(RankRoster r, String call, String told) throws Exception {
        String[] parts = told.isBlank() ? new String[0] : told.split(", ");
        Class<?>[] types = new Class<?>[parts.length];
        Object[] values = new Object[parts.length];
        for (int i = 0; i < parts.length; i++) {
            types[i] = int.class;
            values[i] = names.containsKey(parts[i]) ? names.get(parts[i]) : Integer.valueOf(parts[i]);
        }
        called.add(call);
        return (int) RankRoster.class.getMethod(call, types).invoke(r, values);
    }
}
