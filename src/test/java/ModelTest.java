import java.lang.reflect.InvocationTargetException;
import java.lang.reflect.Method;
import java.util.ArrayList;
import java.util.Arrays;
import java.util.List;
import java.util.Random;

/** Runs of random calls, as the document allows them and as it does not, held against the model. */
public final class ModelTest {
    private static final int RUNS = 3000;
    private static final int[] WILD = {-2147483648, -101, -11, -3, -2, -1, 5, 6, 12, 13, 30, 31, 99, 100, 200, 2147483647};
    private static final String[] WORDS = {"wall", "passer", "beast", "check", "look", "coach"};
    private static final int[] NUMBERS = {1, 4, 2, 3, 2, 1};

    private final Random random;
    private final PassStones one = new PassStones();
    private final Model other = new Model();
    private final List<String> calls = new ArrayList<>();
    private int minute = 0;

    private ModelTest(long seed) {
        random = new Random(seed);
    }

    public static void main(String[] args) throws Exception {
        for (int seed = 0; seed < RUNS; seed++) {
            ModelTest test = new ModelTest(seed);
            if (!test.run(20 + seed % 200)) break;
        }
        Due.end();
    }

    private boolean run(int length) throws Exception {
        List<Method> face = new ArrayList<>();
        for (Method m : PassStones.class.getDeclaredMethods()) {
            if (java.lang.reflect.Modifier.isPublic(m.getModifiers())) face.add(m);
        }
        face.sort((a, b) -> a.getName().compareTo(b.getName()));
        int most = random.nextInt(13);
        for (int i = 0; i < length; i++) {
            int r = random.nextInt(10);
            boolean fits;
            if (r == 0 && one.count(0) < most) fits = both("passer", nextMinute(), random.nextInt(6), random.nextInt(2), high());
            else if (r == 1) fits = grow();
            else if (r == 2 && random.nextInt(4) == 0) fits = road();
            else {
                Method m = face.get(random.nextInt(face.size()));
                Object[] values = new Object[m.getParameterCount()];
                for (int p = 0; p < values.length; p++) {
                    values[p] = m.getParameterTypes()[p] == long.class ? (Object) random.nextLong() : (Object) number();
                }
                fits = both(m.getName(), values);
            }
            if (!fits || !both("digest")) return false;
        }
        return both("status", 0) && both("status", 1) && both("status", 2);
    }

    private int high() {
        int r = random.nextInt(6);
        return r == 0 ? 0 : r == 1 ? 30 : r == 2 ? random.nextInt(31) : r == 3 ? 28 + random.nextInt(3) : random.nextInt(15);
    }

    private int nextMinute() {
        minute = Math.max(minute, one.count(0) == 0 ? 0 : minute);
        if (one.count(0) == 0) minute = random.nextInt(5);
        minute = Math.min(99, minute + random.nextInt(4));
        return minute;
    }

    private int number() {
        int r = random.nextInt(12);
        return r == 0 ? WILD[random.nextInt(WILD.length)] : r < 8 ? random.nextInt(6) - 1 : r < 10 ? random.nextInt(13) : random.nextInt(40);
    }

    private boolean grow() throws Exception {
        int passers = one.count(0);
        switch (random.nextInt(9)) {
            case 0: return both("wall", high());
            case 1: return both("coach", random.nextInt(12));
            case 2: return both("check", one.count(2) * 8 + random.nextInt(8), random.nextInt(12), 8 + random.nextInt(6));
            case 3: return both("check", one.count(2) * 8 + random.nextInt(8), high(), 30);
            case 4: return both("look", one.count(3) * 4 + random.nextInt(5), Math.max(0, one.height(one.count(3) * 4) + random.nextInt(3) - 1));
            case 5: return passers == 0 || both("odds", random.nextInt(passers), random.nextInt(6), random.nextInt(6));
            case 6: return passers == 0 || both("advice", random.nextInt(passers), 20 + random.nextInt(80), high());
            case 7: return both("hired", one.count(2) == 0 ? -1 : random.nextInt(one.count(2) + 1) - 1);
            default: return both("behind", high(), random.nextInt(2)) && both("through");
        }
    }

    /** A text of items, now and then with a fault in it or with an item that is refused. */
    private boolean road() throws Exception {
        StringBuilder told = new StringBuilder();
        int at = 0;
        for (int n = random.nextInt(14); n > 0; n--) {
            int sort = random.nextInt(8) % 6;
            told.append(WORDS[sort]);
            for (int i = 0; i < NUMBERS[sort]; i++) {
                at = Math.min(99, at + random.nextInt(3));
                int v = NUMBERS[sort] > 1 && i == 0 ? at : sort == 1 && i == 1 ? random.nextInt(6) : sort == 1 && i == 2 ? random.nextInt(2) : random.nextInt(15) + (i == 2 ? 15 : 0);
                told.append(i == 0 && random.nextInt(3) == 0 ? "" : " ").append(v);
            }
            told.append(random.nextInt(5) == 0 ? " ; " : ";");
        }
        if (random.nextInt(3) == 0 && told.length() > 0) {
            int place = random.nextInt(told.length());
            switch (random.nextInt(4)) {
                case 0: told.deleteCharAt(place); break;
                case 1: told.insert(place, (char) random.nextInt(256)); break;
                case 2: told.insert(place, "0123456789 ;azpl".charAt(random.nextInt(16))); break;
                default: told.setLength(place);
            }
        }
        boolean fits = both("clear");
        for (int i = 0; i < told.length() && fits; ) {
            int n = Math.min(1 + random.nextInt(8), told.length() - i);
            long v = random.nextLong();
            for (int k = 0; k < n; k++) v = v << 8 | told.charAt(i + k);
            fits = both("type", v, n);
            i += n;
        }
        return fits && both("read");
    }

    private boolean both(String name, Object... values) throws Exception {
        calls.add(name + Arrays.toString(values));
        long got = call(one, name, values);
        long want = call(other, name, values);
        Due.is(got == want ? name : "..  " + String.join(" ", calls), got, want);
        return got == want;
    }

    private static long call(Object on, String name, Object[] values) throws Exception {
        for (Method m : on.getClass().getDeclaredMethods()) {
            if (m.getName().equals(name) && java.lang.reflect.Modifier.isPublic(m.getModifiers())) {
                try {
                    return ((Number) m.invoke(on, values)).longValue();
                } catch (InvocationTargetException e) {
                    throw new IllegalStateException(name + Arrays.toString(values), e.getCause());
                }
            }
        }
        throw new IllegalStateException(name);
    }
}
