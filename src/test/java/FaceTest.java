import java.lang.reflect.Constructor;
import java.lang.reflect.Field;
import java.lang.reflect.Method;
import java.lang.reflect.Modifier;
import java.nio.file.Files;
import java.nio.file.Path;
import java.util.Set;
import java.util.TreeSet;
import java.util.regex.Matcher;
import java.util.regex.Pattern;

/** The public face of the document, and the rules of LANGUAGE.md that can be seen from outside. */
public final class FaceTest {
    private static final String FACE = "int wall(int) int coach(int) int passer(int,int,int,int) int undo() int beast(int,int) "
            + "int odds(int,int,int) int type(long,int) int clear() int read() int height(int) int does(int) int over(int) "
            + "int through() int behind(int,int) int may(int,int,int) int advice(int,int,int) int check(int,int,int) "
            + "int hired(int) int turns(int) int treaty() int look(int,int) int forget() int done() int sure(int) "
            + "int chance(int) int free(int,int) long part(int) int image(int) int from(int) int status(int) int count(int) "
            + "long digest()";

    public static void main(String[] args) throws Exception {
        face();
        insides();
        words(Files.readString(Path.of("src/main/java/PassStones.java")));
        Due.end();
    }

    private static void face() {
        Due.holds("the class is public and final",
                Modifier.isPublic(PassStones.class.getModifiers()) && Modifier.isFinal(PassStones.class.getModifiers()));
        Set<String> found = new TreeSet<>();
        for (Method m : PassStones.class.getDeclaredMethods()) {
            if (Modifier.isPrivate(m.getModifiers())) continue;
            StringBuilder told = new StringBuilder(m.getReturnType() + " " + m.getName() + "(");
            for (Class<?> p : m.getParameterTypes()) told.append(told.charAt(told.length() - 1) == '(' ? "" : ",").append(p);
            found.add(told + ")");
            Due.holds(m + " is public and not static", Modifier.isPublic(m.getModifiers()) && !Modifier.isStatic(m.getModifiers()));
        }
        Set<String> asked = new TreeSet<>();
        Matcher one = Pattern.compile("(int|long) \\w+\\([a-z,]*\\)").matcher(FACE);
        while (one.find()) asked.add(one.group());
        Due.is("methods asked for", asked.size(), 32);
        Due.holds("methods " + found + " are " + asked, found.equals(asked));
        Set<String> constants = new TreeSet<>();
        for (Field f : PassStones.class.getDeclaredFields()) {
            if (!Modifier.isPrivate(f.getModifiers())) constants.add(Modifier.toString(f.getModifiers()) + " " + f.getType() + " " + f.getName());
        }
        Due.holds("constants " + constants, constants.equals(new TreeSet<>(Set.of("public static final int NONE",
                "public static final int BAD", "public static final int NO", "public static final int FULL"))));
        Constructor<?>[] made = PassStones.class.getDeclaredConstructors();
        Due.holds("one public constructor", made.length == 1 && Modifier.isPublic(made[0].getModifiers()) && made[0].getParameterCount() == 0);
    }

    private static void insides() {
        Set<String> names = new TreeSet<>();
        for (Method m : PassStones.class.getDeclaredMethods()) {
            if (Modifier.isPublic(m.getModifiers())) names.add(m.getName());
        }
        Class<?>[] inside = PassStones.class.getDeclaredClasses();
        Due.holds("at most twelve classes", inside.length + 1 <= 12);
        for (Class<?> c : inside) {
            int is = c.getModifiers();
            Due.holds(c + " is static", Modifier.isStatic(is) && !Modifier.isPublic(is) && !Modifier.isProtected(is));
            members(c, names);
        }
        members(PassStones.class, names);
    }

    private static void members(Class<?> c, Set<String> names) {
        int fields = 0;
        for (Field f : c.getDeclaredFields()) {
            if (Modifier.isStatic(f.getModifiers())) {
                Due.holds(f + " is final", Modifier.isFinal(f.getModifiers()));
            } else {
                fields++;
            }
        }
        Due.holds(c + " has at most twenty fields", fields <= 20);
        for (Method m : c.getDeclaredMethods()) {
            Due.holds(m + " takes at most seven", m.getParameterCount() <= 7);
            boolean ofTheFace = c == PassStones.class && Modifier.isPublic(m.getModifiers());
            Due.holds(m + " has a name of its own", ofTheFace || !names.contains(m.getName()));
        }
    }

    private static void words(String source) {
        String code = source.replaceAll("(?s)/\\*.*?\\*/", "").replaceAll("//[^\n]*", "");
        String bare = code.replaceAll("\"[^\"]*\"", "\"\"");
        for (String word : new String[] {"throw", "throws", "try", "catch", "finally", "synchronized", "assert", "volatile",
                "transient", "native", "package", "var", "Exact", "System\\.out", "Random", "Thread", "Object", "hashCode",
                "toString", "getClass", "nanoTime", "currentTimeMillis"}) {
            Due.holds("no " + word, !Pattern.compile("\\b" + word + "\\b").matcher(bare).find());
        }
        for (String sign : new String[] {"->", "::", "@", "Exact("}) Due.holds("no " + sign, !bare.contains(sign));
        Matcher imports = Pattern.compile("import ([\\w.]+);").matcher(bare);
        while (imports.find()) Due.holds("import " + imports.group(1), imports.group(1).equals("java.util.Arrays"));
        Matcher library = Pattern.compile("\\b(Arrays|Math|System)\\.(\\w+)").matcher(bare);
        Set<String> allowed = Set.of("Arrays.fill", "Math.abs", "Math.min", "Math.max", "System.arraycopy");
        while (library.find()) {
            if (library.start() > 0 && bare.charAt(library.start() - 1) == '.') continue;
            Due.holds(library.group() + " is allowed", allowed.contains(library.group()));
        }
        Due.holds("signs 1 to 127", source.chars().allMatch(c -> c > 0 && c < 128));
        lengths(bare);
    }

    /** A method begins with a line that ends with an open brace behind a round one, at its class's depth. */
    private static void lengths(String bare) {
        String[] lines = bare.split("\n");
        Pattern head = Pattern.compile("( {4}| {8})\\w[\\w\\[\\] ]+\\(.*\\) \\{");
        for (int i = 0; i < lines.length; i++) {
            Matcher m = head.matcher(lines[i]);
            if (!m.matches()) continue;
            String close = m.group(1) + "}";
            int end = i;
            while (end < lines.length && !lines[end].equals(close)) end++;
            Due.holds(lines[i].trim() + " has at most sixty lines", end - i + 1 <= 60);
        }
    }
}
