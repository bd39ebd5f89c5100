import java.lang.reflect.Method;
import java.lang.reflect.Modifier;
import java.nio.file.Files;
import java.nio.file.Path;
import java.util.ArrayList;
import java.util.HashMap;
import java.util.HashSet;
import java.util.List;
import java.util.Map;
import java.util.Set;
import java.util.TreeSet;
import java.util.regex.Matcher;
import java.util.regex.Pattern;
import java.util.stream.Stream;

/** README.md: its examples are made as calls, from the first to the last, and each must answer what it tells. */
public final class ReadmeTest {
    private static final Pattern MADE = Pattern.compile("PassStones (\\w+) = new PassStones\\(\\);.*");
    private static final Pattern CALL = Pattern.compile("(\\w+)\\.(\\w+)\\((.*)\\);\\s*// (-?\\d+)(:.*)?");
    private static final Path PAGE = Path.of("README.md");
    private static final Path RUN = Path.of(".ci/run");

    private static final Map<String, PassStones> objects = new HashMap<>();
    private static final Set<String> called = new HashSet<>();
    private static final Set<Long> refusals = new HashSet<>();

    public static void main(String[] args) throws Exception {
        String page = Files.readString(PAGE);
        for (String line : examples(page)) example(line);
        eachMethodIsCalled();
        eachGroupIsNamed(page);
        refusedCallsAreTold(page);
        testsAreTold(page);
        Due.end();
    }

    private static List<String> examples(String page) {
        List<String> lines = new ArrayList<>();
        Matcher block = Pattern.compile("(?s)```java\n(.*?)```").matcher(page);
        while (block.find()) lines.addAll(block.group(1).lines().toList());
        return lines;
    }

    /** A line that is neither a new object nor a call with its answer would go untested, so it is a fault. */
    private static void example(String line) throws Exception {
        Matcher made = MADE.matcher(line);
        if (made.matches()) {
            objects.put(made.group(1), new PassStones());
            return;
        }
        Matcher call = CALL.matcher(line);
        boolean understood = call.matches() && objects.containsKey(call.group(1));
        Due.holds("README.md: " + line + " is a call with its answer", understood);
        if (!understood) return;
        long told = Long.parseLong(call.group(4));
        long got = answer(objects.get(call.group(1)), call.group(2), call.group(3));
        Due.is("README.md: " + line.strip(), got, told);
        called.add(call.group(2));
        if (call.group(1).equals("z")) refusals.add(told);
    }

    private static long answer(PassStones x, String name, String told) throws Exception {
        String[] texts = told.isEmpty() ? new String[0] : told.split(", ");
        for (Method m : PassStones.class.getMethods()) {
            if (!m.getName().equals(name) || m.getParameterCount() != texts.length) continue;
            Object[] values = new Object[texts.length];
            for (int i = 0; i < texts.length; i++) {
                long v = number(texts[i]);
                if (m.getParameterTypes()[i] == int.class) values[i] = (int) v;
                else values[i] = v;
            }
            return ((Number) m.invoke(x, values)).longValue();
        }
        Due.holds("README.md: there is a method " + name + "(" + told + ")", false);
        return 0;
    }

    private static long number(String text) {
        return text.equals("PassStones.NONE") ? PassStones.NONE : Long.decode(text.replace("L", ""));
    }

    private static Set<String> face() {
        Set<String> names = new TreeSet<>();
        for (Method m : PassStones.class.getDeclaredMethods()) {
            if (Modifier.isPublic(m.getModifiers())) names.add(m.getName());
        }
        return names;
    }

    private static void eachMethodIsCalled() {
        for (String name : face()) Due.holds("README.md calls " + name, called.contains(name));
    }

    /** The groups are those that the document's Terms tell: '---- a road.' and so on. */
    private static void eachGroupIsNamed(String page) {
        Set<String> named = new TreeSet<>();
        Matcher head = Pattern.compile("(?m)^### [^:\n]+: (.*)$").matcher(page);
        int groups = 0;
        while (head.find()) {
            groups++;
            named.addAll(List.of(head.group(1).split(", ")));
        }
        Due.is("README.md: groups of methods", groups, 5);
        Due.holds("README.md: the groups " + named + " are the face", named.equals(face()));
    }

    private static void refusedCallsAreTold(String page) {
        Due.holds("README.md has a part on refused calls", page.contains("\n## What a refused call answers\n"));
        for (long answer : new long[] {PassStones.BAD, PassStones.NO, PassStones.FULL, -10, -100, -20, -1}) {
            Due.holds("README.md has a call refused by " + answer, refusals.contains(answer));
            Due.holds("README.md has " + answer + " in its table",
                    Pattern.compile("(?m)^\\| (`[\\w.]+`, )?" + answer + " \\|").matcher(page).find());
        }
    }

    private static void testsAreTold(String page) throws Exception {
        Due.holds("README.md tells the command " + RUN, page.contains("\n    " + RUN + "\n"));
        Due.holds(RUN + " may be run", Files.isExecutable(RUN));
        try (Stream<Path> files = Files.list(Path.of("src/test/java"))) {
            for (Path file : files.filter(f -> f.toString().endsWith("Test.java")).toList()) {
                Due.holds("README.md names " + file, page.contains("`" + file + "`"));
            }
        }
    }
}
