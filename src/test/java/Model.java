import java.math.BigInteger;
import java.util.ArrayList;
import java.util.List;
import java.util.regex.Matcher;
import java.util.regex.Pattern;

/**
 * The document once more, as plainly as can be: every row is gone through, nothing is weighed from
 * the end back. The random test holds the class against it.
 */
public final class Model {
    private static final Pattern TOKEN = Pattern.compile("[a-z]+|[0-9]+|.", Pattern.DOTALL);

    private int high = 10;
    private int low = 0;
    private List<int[]> passers = new ArrayList<>();
    private List<int[]> beasts = new ArrayList<>();
    private List<int[]> checks = new ArrayList<>();
    private List<int[]> looks = new ArrayList<>();
    private String text = "";
    private BigInteger above = BigInteger.ZERO;
    private BigInteger below = BigInteger.ONE;
    private final Model[] images = new Model[2];
    private final int[] status = new int[3];

    private int bestMen;
    private int[] bestGains;

    private static boolean in(int v, int a, int b) {
        return a <= v && v <= b;
    }

    private int bad(int answer) {
        status[0]++;
        return answer;
    }

    private int no(int answer) {
        status[1]++;
        return answer;
    }

    private int full() {
        status[2]++;
        return -4;
    }

    public int wall(int h) {
        if (!in(h, 0, 30)) return bad(-2);
        int was = high;
        high = h;
        return was;
    }

    public int coach(int h) {
        if (!in(h, 0, 30)) return bad(-2);
        int was = low;
        low = h;
        return was;
    }

    private static int lastMinute(List<int[]> rows) {
        return rows.isEmpty() ? -1 : rows.get(rows.size() - 1)[0];
    }

    private int add(List<int[]> rows, int most, int... row) {
        if (rows.size() == most) return full();
        rows.add(row);
        return rows.size() - 1;
    }

    public int passer(int minute, int kind, int brings, int wish) {
        if (!in(minute, 0, 99) || minute < lastMinute(passers) || !in(kind, 0, 5) || !in(brings, 0, 1)
                || !in(wish, 0, 30)) return bad(-2);
        return add(passers, 12, minute, kind, brings, wish, 3, 3);
    }

    public int undo() {
        if (passers.isEmpty()) return no(-3);
        passers.remove(passers.size() - 1);
        return passers.size();
    }

    public int beast(int minute, int jump) {
        if (!in(minute, 0, 99) || !in(jump, 0, 30)) return bad(-2);
        return add(beasts, 4, minute, jump);
    }

    private boolean isPasser(int i) {
        return in(i, 0, passers.size() - 1);
    }

    public int odds(int passer, int takes, int lays) {
        if (!isPasser(passer) || takes < 0 || lays < 0 || (long) takes + lays > 10) return bad(-2);
        passers.get(passer)[4] = takes;
        passers.get(passer)[5] = lays;
        return 1;
    }

    public int type(long v, int n) {
        if (!in(n, 1, 8)) return bad(-2);
        if (text.length() + n > 200) return full();
        StringBuilder more = new StringBuilder();
        for (int i = 0; i < n; i++) {
            more.insert(0, (char) (v & 255));
            v >>>= 8;
        }
        text += more;
        return text.length();
    }

    public int clear() {
        int was = text.length();
        text = "";
        return was;
    }

    private static int numbersOf(String word) {
        switch (word) {
            case "wall": case "coach": return 1;
            case "beast": case "look": return 2;
            case "check": return 3;
            case "passer": return 4;
            default: return -1;
        }
    }

    public int read() {
        List<List<String>> items = new ArrayList<>();
        List<String> item = null;
        Matcher m = TOKEN.matcher(text);
        while (m.find()) {
            String t = m.group();
            if (t.equals(" ")) continue;
            boolean fits;
            if (item == null) {
                fits = numbersOf(t) > 0;
                if (fits) {
                    item = new ArrayList<>(List.of(t));
                    items.add(item);
                }
            } else if (item.size() <= numbersOf(item.get(0))) {
                fits = t.matches("[0-9]{1,2}");
                item.add(t);
            } else {
                fits = t.equals(";");
                item = null;
            }
            if (!fits) return -10 - m.start();
        }
        if (item != null) return -10 - text.length();
        Model told = new Model();
        for (int i = 0; i < items.size(); i++) {
            if (told.tell(items.get(i)) < 0) return -1000 - i;
        }
        take(told);
        return items.size();
    }

    private int tell(List<String> item) {
        int[] n = new int[4];
        for (int i = 1; i < item.size(); i++) n[i - 1] = Integer.parseInt(item.get(i));
        switch (item.get(0)) {
            case "wall": return wall(n[0]);
            case "coach": return coach(n[0]);
            case "beast": return beast(n[0], n[1]);
            case "look": return look(n[0], n[1]);
            case "check": return check(n[0], n[1], n[2]);
            default: return passer(n[0], n[1], n[2], n[3]);
        }
    }

    private static List<int[]> copy(List<int[]> rows) {
        List<int[]> made = new ArrayList<>();
        for (int[] row : rows) made.add(row.clone());
        return made;
    }

    private void take(Model other) {
        high = other.high;
        low = other.low;
        passers = copy(other.passers);
        beasts = copy(other.beasts);
        checks = copy(other.checks);
        looks = copy(other.looks);
    }

    /** What comes of it when a passer of a kind passes a wall. */
    private static int comesOf(int[] p, int kind, int h, int d) {
        int take = h > 0 ? -1 : 0;
        int lay = h < 30 ? 1 : 0;
        boolean brings = p[2] == 1;
        switch (kind) {
            case 0: return take;
            case 1: return brings ? lay : take;
            case 2: return h > p[3] ? take : h < p[3] && brings ? lay : 0;
            case 3: return d > 0 ? take : d < 0 && brings ? lay : 0;
            case 4: return Math.max(-2, -h);
            default: return p[0] % 2 == 0 ? comesOf(p, 2, h, d) : 0;
        }
    }

    /** Heights behind each passer, the first one ahead of all; one of them may be made to do a deed. */
    private int[] heights(int made, int deed) {
        int[] hs = new int[passers.size() + 1];
        hs[0] = high;
        int d = 0;
        for (int i = 0; i < passers.size(); i++) {
            int h = hs[i];
            d = i == made ? Math.max(0, Math.min(30, h + deed)) - h : comesOf(passers.get(i), passers.get(i)[1], h, d);
            hs[i + 1] = h + d;
        }
        return hs;
    }

    private int passed(int minute) {
        int n = 0;
        for (int[] p : passers) if (p[0] <= minute) n++;
        return n;
    }

    public int height(int minute) {
        if (!in(minute, 0, 99)) return bad(-2);
        return heights(-1, 0)[passed(minute)];
    }

    public int does(int passer) {
        if (!isPasser(passer)) return bad(-10);
        int[] hs = heights(-1, 0);
        return hs[passer + 1] - hs[passer];
    }

    public int over(int beast) {
        if (!in(beast, 0, beasts.size() - 1)) return bad(-2);
        return height(beasts.get(beast)[0]) <= beasts.get(beast)[1] ? 1 : 0;
    }

    public int through() {
        int[] hs = heights(-1, 0);
        for (int i = 0; i < hs.length; i++) {
            if (hs[i] <= low) return i == 0 ? -5 : i - 1;
        }
        return -1;
    }

    public int behind(int h, int what) {
        if (!in(h, 0, 30) || !in(what, 0, 1)) return bad(-2);
        int a = high;
        int b = h;
        int d = 0;
        for (int[] p : passers) {
            int want = comesOf(p, p[1], a, d);
            d = 0;
            for (; want < 0; want++) {
                a--;
                d--;
                if (b < 30) b++;
            }
            if (want == 1 && b > 0) {
                a++;
                b--;
                d = 1;
            }
        }
        return what == 0 ? a : b;
    }

    public int may(int minute, int calf, int what) {
        if (!in(minute, 0, 99) || !in(calf, 0, 30) || !in(what, 0, 1)) return bad(-2);
        int h = height(minute);
        if (what == 1) return h > calf ? h - calf : calf - h;
        return h == calf || passed(minute) == 0 ? -1 : passed(minute) - 1;
    }

    public int advice(int passer, int minute, int height) {
        if (!isPasser(passer) || !in(minute, 0, 99) || !in(height, 0, 30) || minute < passers.get(passer)[0]) {
            return bad(-10);
        }
        int[] far = new int[3];
        for (int deed = -1; deed <= 1; deed++) {
            far[deed + 1] = Math.abs(heights(passer, deed)[passed(minute)] - height);
        }
        int least = Math.min(far[0], Math.min(far[1], far[2]));
        return far[1] == least ? 0 : far[0] == least ? -1 : 1;
    }

    public int check(int minute, int a, int b) {
        if (!in(minute, 0, 99) || minute <= lastMinute(checks) || !in(a, 0, 30) || !in(b, 0, 30) || a > b) {
            return bad(-2);
        }
        return add(checks, 5, minute, a, b);
    }

    public int hired(int i) {
        if (i != -1 && !in(i, 0, checks.size() - 1)) return bad(-100);
        bestMen = Integer.MAX_VALUE;
        hire(0, 0, high, 0, 0, new int[checks.size()]);
        return i == -1 ? bestMen : bestGains[i];
    }

    /** Rows of gains in their order, so that of like ones the first one found stays. */
    private void hire(int check, int first, int h, int d, int men, int[] gains) {
        if (men >= bestMen) return;
        if (check == checks.size()) {
            bestMen = men;
            bestGains = gains.clone();
            return;
        }
        int[] c = checks.get(check);
        int until = passed(c[0]);
        for (int i = first; i < until; i++) {
            d = comesOf(passers.get(i), passers.get(i)[1], h, d);
            h += d;
        }
        for (int goal = c[1]; goal <= c[2]; goal++) {
            gains[check] = goal - h;
            hire(check + 1, until, goal, d, men + Math.abs(goal - h), gains);
        }
    }

    /** The row of all deeds from a passer on, when each is wise. */
    private List<Integer> wise(int passer, int h) {
        if (passer == passers.size()) return new ArrayList<>();
        int[] p = passers.get(passer);
        List<Integer> best = null;
        int bestFar = 99;
        for (int deed : new int[] {0, -1, 1}) {
            if (deed == -1 && h == 0 || deed == 1 && (p[2] == 0 || h == 30)) continue;
            List<Integer> rest = wise(passer + 1, h + deed);
            int end = h + deed;
            for (int r : rest) end += r;
            if (Math.abs(end - p[3]) < bestFar) {
                bestFar = Math.abs(end - p[3]);
                best = rest;
                best.add(0, deed);
            }
        }
        return best;
    }

    public int turns(int passer) {
        if (passer != -1 && !isPasser(passer)) return bad(-10);
        List<Integer> row = wise(0, high);
        if (passer >= 0) return row.get(passer);
        int end = high;
        for (int deed : row) end += deed;
        return end;
    }

    public int treaty() {
        int best = -1;
        long least = Long.MAX_VALUE;
        for (int h = 0; h <= 30 && !passers.isEmpty(); h++) {
            long sum = 0;
            for (int[] p : passers) sum += Math.abs(p[3] - h);
            if (sum < least) {
                least = sum;
                best = h;
            }
        }
        return best;
    }

    public int look(int minute, int h) {
        if (!in(minute, 0, 99) || minute < lastMinute(looks) || !in(h, 0, 30)) return bad(-2);
        return add(looks, 6, minute, h);
    }

    public int forget() {
        checks.clear();
        looks.clear();
        return 1;
    }

    private List<int[]> rows() {
        List<int[]> found = new ArrayList<>();
        rowsFrom(0, high, new int[passers.size()], found);
        return found;
    }

    private void rowsFrom(int i, int h, int[] row, List<int[]> found) {
        if (h < 0 || h > 30) return;
        for (int[] look : looks) {
            if (passed(look[0]) == i && look[1] != h) return;
        }
        if (i == passers.size()) {
            found.add(row.clone());
            return;
        }
        for (int deed = -1; deed <= 1; deed++) {
            row[i] = deed;
            rowsFrom(i + 1, h + deed, row, found);
        }
    }

    public int done() {
        return rows().size();
    }

    public int sure(int passer) {
        if (!isPasser(passer)) return bad(-10);
        List<int[]> all = rows();
        if (all.isEmpty()) return no(-20);
        for (int[] row : all) {
            if (row[passer] != all.get(0)[passer]) return -5;
        }
        return all.get(0)[passer];
    }

    /** By how many of 10 to the n the wall goes one of these ways; how it is judged tells what. */
    private long ways(int i, int n, int h, boolean through, int what, int k) {
        boolean now = !through && h <= low;
        if (i == n) return (what == 2 ? h <= k : what == 1 ? through || now : now) ? 1 : 0;
        int[] p = passers.get(i);
        boolean then = through || now;
        long sum = 0;
        if (p[4] > 0) sum += p[4] * ways(i + 1, n, Math.max(0, h - 1), then, what, k);
        if (p[5] > 0) sum += p[5] * ways(i + 1, n, Math.min(30, h + 1), then, what, k);
        if (p[4] + p[5] < 10) sum += (10 - p[4] - p[5]) * ways(i + 1, n, h, then, what, k);
        return sum;
    }

    private int fraction(long a, int n) {
        BigInteger num = BigInteger.valueOf(a);
        BigInteger den = BigInteger.TEN.pow(n);
        above = num.divide(num.gcd(den));
        below = den.divide(num.gcd(den));
        return 1;
    }

    public int chance(int k) {
        if (!in(k, 0, 30)) return bad(-2);
        return fraction(ways(0, passers.size(), high, false, 2, k), passers.size());
    }

    public int free(int i, int what) {
        if (i != -1 && !isPasser(i) || !in(what, 0, 1)) return bad(-2);
        return fraction(ways(0, i + 1, high, false, what, 0), i + 1);
    }

    public long part(int what) {
        if (!in(what, 0, 1)) return bad(-2);
        return (what == 0 ? above : below).longValueExact();
    }

    public int image(int i) {
        if (!in(i, 0, 1)) return bad(-2);
        images[i] = new Model();
        images[i].take(this);
        return 1;
    }

    public int from(int i) {
        if (!in(i, 0, 1)) return bad(-2);
        if (images[i] == null) return no(-3);
        take(images[i]);
        return 1;
    }

    public int status(int what) {
        return in(what, 0, 2) ? status[what] : bad(-1);
    }

    public int count(int what) {
        if (!in(what, 0, 4)) return bad(-2);
        return new int[] {passers.size(), beasts.size(), checks.size(), looks.size(), text.length()}[what];
    }

    public long digest() {
        List<Long> all = new ArrayList<>();
        for (int what = 0; what <= 4; what++) all.add((long) count(what));
        all.add((long) high);
        all.add((long) low);
        for (List<int[]> rows : List.of(passers, beasts, checks, looks)) {
            for (int[] row : rows) for (int v : row) all.add((long) v);
        }
        all.add(above.longValueExact());
        all.add(below.longValueExact());
        long h = 733;
        for (long v : all) h = 31 * h + v;
        return h;
    }
}
