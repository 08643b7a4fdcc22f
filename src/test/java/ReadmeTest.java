import java.lang.reflect.InvocationTargetException;
import java.lang.reflect.Method;
import java.nio.file.Files;
import java.nio.file.Path;
import java.util.regex.Matcher;
import java.util.regex.Pattern;

/** README.md tells the truth: its run, call by call, and its table of calls. Run from the project's root. */
public final class ReadmeTest {
    private static final Pattern CALL = Pattern.compile("x\\.(\\w+)\\(([^()]*)\\);(?:\\s*// (\\S+))?");
    private static int wrong = 0;
    private static int calls = 0;

    private static void hold(boolean holds, String what) {
        if (!holds) {
            wrong++;
            System.out.println(what);
        }
    }

    public static void main(String[] args) throws Exception {
        String readme = Files.readString(Path.of("README.md"));
        run(readme);
        table(readme);
        System.out.println(calls + " calls of README.md, " + wrong + " wrong");
        if (wrong != 0) System.exit(1);
    }

    private static Method named(String name) {
        for (Method m : LetterTown.class.getMethods()) {
            if (m.getName().equals(name)) return m;
        }
        throw new IllegalStateException("no call " + name);
    }

    private static String answer(LetterTown x, String name, String args) throws IllegalAccessException {
        Method m = named(name);
        String[] given = args.isEmpty() ? new String[0] : args.split(", ");
        Object[] values = new Object[given.length];
        for (int i = 0; i < given.length; i++) {
            values[i] = m.getParameterTypes()[i] == boolean.class ? (Object) Boolean.valueOf(given[i]) : (Object) Integer.valueOf(given[i]);
        }
        try {
            return String.valueOf(m.invoke(x, values));
        } catch (InvocationTargetException e) {
            return e.getCause().getClass().getSimpleName();
        }
    }

    /** The text's pieces in quotes are told; then each line is a call, and behind // its answer. */
    private static void run(String readme) throws IllegalAccessException {
        String block = readme.substring(readme.indexOf("```java") + 7);
        block = block.substring(0, block.indexOf("```"));
        StringBuilder text = new StringBuilder();
        Matcher quoted = Pattern.compile("\"([^\"]*)\"").matcher(block);
        while (quoted.find()) text.append(quoted.group(1).replace("\\n", "\n"));
        LetterTown x = new LetterTown();
        Check.feed(x, text.toString());
        for (String line : block.split("\n")) {
            Matcher m = CALL.matcher(line);
            if (line.startsWith("x.town")) {
                hold(x.town(text.length()) == 0, "the run's TEXT has a FAULT");
            } else if (line.startsWith("x.")) {
                hold(m.matches(), "no call: " + line);
                String was = answer(x, m.group(1), m.group(2));
                calls++;
                hold(was.equals(m.group(3) == null ? "null" : m.group(3)), line + " answered " + was);
            }
        }
        hold(calls > 30, "README.md has a run of " + calls + " calls");
    }

    private static void table(String readme) {
        for (Method m : LetterTown.class.getDeclaredMethods()) {
            if (!java.lang.reflect.Modifier.isPublic(m.getModifiers())) continue;
            Matcher row = Pattern.compile("\\| `" + m.getName() + "\\(([^)]*)\\)` (\\* )?\\|(.*)\\|(.*)\\|").matcher(readme);
            boolean stands = row.find();
            hold(stands, "no row of " + m.getName());
            if (!stands) continue;
            int told = row.group(1).isEmpty() ? 0 : row.group(1).split(",").length;
            hold(told == m.getParameterCount(), "another row of " + m.getName());
            throwing(m, row.group(2) != null, row.group(4));
        }
    }

    private static void throwing(Method m, boolean canBeSpent, String refused) {
        boolean illegal = false;
        boolean noSuch = false;
        for (Class<?> e : m.getExceptionTypes()) {
            illegal |= e == IllegalArgumentException.class;
            noSuch |= e == java.util.NoSuchElementException.class;
        }
        hold(illegal == (canBeSpent || refused.contains("IAE")), "IAE of " + m.getName());
        hold(noSuch || !refused.contains("NSE"), "NSE of " + m.getName());
    }
}
