import java.io.PrintWriter;
import java.io.StringWriter;
import java.lang.reflect.Constructor;
import java.lang.reflect.Field;
import java.lang.reflect.Method;
import java.lang.reflect.Modifier;
import java.nio.file.Files;
import java.nio.file.Path;
import java.util.ArrayList;
import java.util.Arrays;
import java.util.List;
import java.util.Map;
import java.util.Set;
import java.util.TreeMap;
import java.util.TreeSet;
import java.util.regex.Matcher;
import java.util.regex.Pattern;
import java.util.spi.ToolProvider;

/** The face and what of LANGUAGE.md can be seen from the class and its text. Run from the project's root. */
public final class RulesTest {
    private static int wrong = 0;

    private static final String[] FACE = {
        "int feed(int,int,int,int,int)", "int town(int)!I", "int fault()", "int count(int)!N",
        "int person(int,int)!N", "int weight(int,int)!N", "int opened(int,int)!NI", "long goes(int)!NI",
        "long gets(int)!NI", "int all(int)!NI", "int least(boolean,int,int,int)!NI", "long one(int,int,int,int)!NI",
        "long named(int)!NI", "int hand(int)!N", "int judge()", "int odds()!I", "int ended()",
        "boolean guess(int,int,int,int)!N", "int credit(int)!NI", "int chain(int)!NI", "int chained(int)!N",
        "int two(int,int)!NI", "long feeling(int)!NI", "int theft(int,int)!I", "int thieves(int)!N",
        "int luck(int,int,int)!I", "void begin(int,int)!I", "int on(int)!I", "int week(int,int)!N",
        "boolean image()", "boolean restore()"};

    private static void hold(boolean holds, String what) {
        if (!holds) {
            wrong++;
            System.out.println(what);
        }
    }

    public static void main(String[] args) throws Exception {
        face();
        inside();
        text();
        depth();
        room();
        System.out.println(wrong == 0 ? "all rules hold" : wrong + " do not hold");
        if (wrong != 0) System.exit(1);
    }

    private static String told(Method m) {
        StringBuilder s = new StringBuilder(m.getReturnType() + " " + m.getName() + "(");
        for (int i = 0; i < m.getParameterCount(); i++) s.append(i > 0 ? "," : "").append(m.getParameterTypes()[i]);
        s.append(")");
        if (m.getExceptionTypes().length > 0) s.append("!");
        for (Class<?> e : m.getExceptionTypes()) s.append(e.getSimpleName().charAt(0));
        return s.toString();
    }

    private static void face() {
        int mods = LetterTown.class.getModifiers();
        hold(Modifier.isPublic(mods) && Modifier.isFinal(mods), "the class is public and final");
        Set<String> found = new TreeSet<>();
        for (Method m : LetterTown.class.getDeclaredMethods()) {
            if (Modifier.isPublic(m.getModifiers())) found.add(told(m));
            else hold(Modifier.isPrivate(m.getModifiers()), "not private: " + m);
        }
        hold(found.equals(new TreeSet<>(Arrays.asList(FACE))), "another face: " + found);
        for (Field f : LetterTown.class.getDeclaredFields()) {
            hold(Modifier.isPrivate(f.getModifiers()) || f.getName().equals("NONE"), "not private: " + f);
        }
        for (Constructor<?> k : LetterTown.class.getDeclaredConstructors()) {
            hold(Modifier.isPublic(k.getModifiers()) && k.getParameterCount() == 0, "another constructor: " + k);
        }
    }

    private static void inside() {
        Set<String> names = new TreeSet<>();
        for (String s : FACE) names.add(s.substring(s.indexOf(' ') + 1, s.indexOf('(')));
        List<Class<?>> all = new ArrayList<>(Arrays.asList(LetterTown.class.getDeclaredClasses()));
        hold(all.size() < 12, "too many classes");
        all.add(LetterTown.class);
        for (Class<?> k : all) {
            int fields = 0;
            for (Field f : k.getDeclaredFields()) {
                if (Modifier.isStatic(f.getModifiers())) hold(Modifier.isFinal(f.getModifiers()), "static, not final: " + f);
                else fields++;
            }
            hold(fields <= 20, "too many fields: " + k);
            if (k != LetterTown.class) hold(Modifier.isStatic(k.getModifiers()), "not static: " + k);
            for (Method m : k.getDeclaredMethods()) {
                hold(m.getParameterCount() <= 7, "too many parameters: " + m);
                hold(Modifier.isPublic(m.getModifiers()) || !names.contains(m.getName()), "a public one's name: " + m);
            }
        }
    }

    private static void text() throws Exception {
        String text = Files.readString(Path.of("src/main/java/LetterTown.java"));
        for (char sign : text.toCharArray()) hold(sign < 128, "a sign above 127");
        String[] never = {"catch", "->", "::", "Exact(", "synchronized", "assert ", "finally", "double", "float", "package ",
            "System.out", "Random", "static {", "@"};
        for (String s : never) hold(!text.contains(s), "in the text: " + s);
        int open = 0;
        int start = 0;
        boolean method = false;
        String[] lines = text.split("\n");
        for (int i = 0; i < lines.length; i++) {
            String line = lines[i];
            hold(line.length() <= 120, "a long line: " + (i + 1));
            if (line.startsWith("import ")) {
                hold(line.equals("import java.util.Arrays;") || line.equals("import java.util.NoSuchElementException;"), line);
            }
            if (line.matches(" {4}( {4})?(public|private) .*\\) .*\\{")) { method = true; start = i; open = line.indexOf('p'); }
            if (method && line.equals(" ".repeat(open) + "}")) {
                hold(i - start <= 60, "a long method at line " + (start + 1));
                method = false;
            }
        }
    }

    /** Rule 11, by what javap shows: no chain of calls is longer than eight, and none comes back to itself. */
    private static void depth() throws Exception {
        ToolProvider javap = ToolProvider.findFirst("javap").orElse(null);
        if (javap == null) {
            System.out.println("there is no javap: how deep calls go is not looked at");
            return;
        }
        Map<String, Set<String>> calls = new TreeMap<>();
        Path place = Path.of(LetterTown.class.getProtectionDomain().getCodeSource().getLocation().toURI());
        List<String> names = new ArrayList<>(List.of("LetterTown"));
        for (Class<?> k : LetterTown.class.getDeclaredClasses()) names.add(k.getName());
        for (String name : names) tellCalls(name, shown(javap, place.resolve(name + ".class")), calls);
        hold(calls.size() > 100, "javap shows " + calls.size() + " methods");
        for (String method : calls.keySet()) deep(method, calls, new ArrayList<>());
    }

    private static String shown(ToolProvider javap, Path file) {
        StringWriter out = new StringWriter();
        PrintWriter printed = new PrintWriter(out);
        javap.run(printed, printed, "-c", "-p", file.toString());
        printed.flush();
        return out.toString();
    }

    private static void tellCalls(String name, String shown, Map<String, Set<String>> calls) {
        Pattern head = Pattern.compile("^  \\S.*?([\\w$.]+)\\(.*\\)( throws .*)?;$");
        Pattern call = Pattern.compile("invoke\\w+ .*// (?:Interface)?Method ([^:]+):");
        Set<String> now = new TreeSet<>();
        for (String line : shown.split("\\R")) {
            Matcher h = head.matcher(line);
            Matcher k = call.matcher(line);
            if (h.matches()) {
                String method = h.group(1).equals(name) ? "\"<init>\"" : h.group(1);
                now = calls.computeIfAbsent(name + "." + method, x -> new TreeSet<>());
            } else if (k.find()) {
                String to = k.group(1);
                now.add(to.indexOf('.') < 0 ? name + "." + to : to);
            }
        }
    }

    private static void deep(String method, Map<String, Set<String>> calls, List<String> way) {
        hold(!way.contains(method), "comes back to itself: " + way + " " + method);
        if (way.contains(method)) return;
        way.add(method);
        hold(way.size() <= 8, "too deep: " + way);
        for (String next : calls.getOrDefault(method, Set.of())) deep(next, calls, way);
        way.remove(way.size() - 1);
    }

    /** All that an object keeps, once a town of 20,000 HANDS has been asked: a small part of the room. */
    private static void room() throws Exception {
        LetterTown x = new LetterTown();
        long atFirst = elements(x, new ArrayList<>());
        hold(atFirst < 50000, "a new object has " + atFirst + " fields and elements");
        Check.tell(x, Check.full("sends"));
        x.goes(0);
        x.gets(0);
        long elements = elements(x, new ArrayList<>());
        hold(elements < 600000, "a large town has " + elements + " fields and elements");
        for (int i = 0; i < 20; i++) {
            x.all(0);
            x.two(0, 0);
            x.named(0);
            x.chain(2);
            x.feeling(1 + i);
        }
        hold(elements(x, new ArrayList<>()) == elements, "calls leave something behind");
    }

    private static long elements(Object of, List<Object> seen) throws Exception {
        for (Object s : seen) if (s == of) return 0;
        seen.add(of);
        if (of.getClass().isArray()) return java.lang.reflect.Array.getLength(of);
        long sum = 0;
        for (Field f : of.getClass().getDeclaredFields()) {
            if (Modifier.isStatic(f.getModifiers())) continue;
            sum++;
            f.setAccessible(true);
            if (!f.getType().isPrimitive() && f.get(of) != null) sum += elements(f.get(of), seen);
        }
        return sum;
    }
}
