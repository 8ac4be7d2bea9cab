import java.math.BigInteger;
import java.util.ArrayList;
import java.util.Arrays;
import java.util.List;
import java.util.regex.Matcher;
import java.util.regex.Pattern;

/** The document once more, by trying out everything, to compare the program with: as plain as can be, not fast. */
final class PlainPlay {
    private static final Pattern TOKEN = Pattern.compile("[a-z]+|[0-9]+|;|[^ ]", Pattern.DOTALL);
    private static final BigInteger BASE = BigInteger.valueOf(1073741824);

    private static final class Part {
        int kind, lines, need, cast = -1, behind = -1, known = 0;
    }

    private static final class Child {
        int learn, forget, voice, dread, ill, sat = 0;
        List<Integer> wishes = new ArrayList<>();
    }

    private static final class Scene {
        int minutes;
        List<Integer> parts = new ArrayList<>();
    }

    private static final class All {
        List<Part> parts = new ArrayList<>();
        List<Child> children = new ArrayList<>();
        List<Scene> scenes = new ArrayList<>();
        List<Integer> years = new ArrayList<>();
        String book = "";
        int change = 0, each = 0;

        All copy() {
            All other = new All();
            for (Part p : parts) {
                Part q = new Part();
                q.kind = p.kind; q.lines = p.lines; q.need = p.need;
                q.cast = p.cast; q.behind = p.behind; q.known = p.known;
                other.parts.add(q);
            }
            for (Child c : children) {
                Child d = new Child();
                d.learn = c.learn; d.forget = c.forget; d.voice = c.voice;
                d.dread = c.dread; d.ill = c.ill; d.sat = c.sat;
                d.wishes.addAll(c.wishes);
                other.children.add(d);
            }
            for (Scene s : scenes) {
                Scene t = new Scene();
                t.minutes = s.minutes;
                t.parts.addAll(s.parts);
                other.scenes.add(t);
            }
            other.years.addAll(years);
            other.book = book;
            other.change = change;
            other.each = each;
            return other;
        }
    }

    private All all = new All();
    private final All[] images = new All[2];
    private BigInteger above = BigInteger.ZERO, below = BigInteger.ONE;
    private final int[] refused = new int[3];

    private int bad(int answer) { refused[0]++; return answer; }

    private int no(int answer) { refused[1]++; return answer; }

    private int full() { refused[2]++; return -4; }

    private boolean part(int p) { return 0 <= p && p < all.parts.size(); }

    private boolean child(int c) { return 0 <= c && c < all.children.size(); }

    private boolean scene(int s) { return 0 <= s && s < all.scenes.size(); }

    int type(long v, int n) {
        if (n < 1 || n > 8) return bad(-2);
        if (all.book.length() + n > 240) return full();
        String hex = String.format("%016x", v).substring(16 - 2 * n);
        for (int i = 0; i < n; i++) all.book += (char) Integer.parseInt(hex.substring(2 * i, 2 * i + 2), 16);
        return all.book.length();
    }

    int clear() {
        int had = all.book.length();
        all.book = "";
        return had;
    }

    int read() {
        List<String> tokens = new ArrayList<>();
        List<Integer> places = new ArrayList<>();
        Matcher m = TOKEN.matcher(all.book);
        while (m.find()) {
            tokens.add(m.group());
            places.add(m.start());
        }
        tokens.add("");
        places.add(all.book.length());
        All told = new All();
        int at = 0, items = 0;
        while (!tokens.get(at).isEmpty()) {
            int end = item(tokens, at, told);
            if (end < 0) return -10 - places.get(-1 - end);
            at = end;
            items++;
        }
        all.parts = told.parts;
        all.children = told.children;
        all.scenes = told.scenes;
        return items;
    }

    /** The token behind the item, or -1 less the token that can not stand there. */
    private static int item(List<String> tokens, int at, All told) {
        String word = tokens.get(at);
        int most = word.equals("scene") ? 7 : 6;
        int have = word.equals("part") ? told.parts.size() : word.equals("child") ? told.children.size() : told.scenes.size();
        if (!List.of("part", "child", "scene", "wish").contains(word)) return -1 - at;
        if (!word.equals("wish") && have == most) return -1 - at;
        List<Integer> numbers = new ArrayList<>();
        while (true) {
            at++;
            String token = tokens.get(at);
            if (token.equals(";") && enough(word, numbers.size())) break;
            if (!token.matches("[0-9]{1,2}")) return -1 - at;
            int v = Integer.parseInt(token);
            if (!stands(word, numbers, v, told)) return -1 - at;
            numbers.add(v);
        }
        add(word, numbers, told);
        return at + 1;
    }

    private static boolean enough(String word, int n) {
        return word.equals("part") ? n == 3 : word.equals("child") ? n == 5 : n >= 2;
    }

    private static boolean stands(String word, List<Integer> before, int v, All told) {
        int i = before.size();
        switch (word) {
            case "part":
                return i < 3 && v <= new int[] {6, 60, 9}[i];
            case "child":
                return i < 5 && v <= new int[] {9, 9, 9, 9, 19}[i] && (i > 0 || v >= 1);
            case "scene":
                return i == 0 ? v >= 1 && v <= 20 : v < told.parts.size() && (i == 1 || v > before.get(i - 1));
            default:
                return i == 0 ? v < told.children.size()
                        : i <= 3 && v < told.parts.size() && !before.subList(1, i).contains(v);
        }
    }

    private static void add(String word, List<Integer> n, All told) {
        switch (word) {
            case "part":
                Part p = new Part();
                p.kind = n.get(0); p.lines = n.get(1); p.need = n.get(2);
                told.parts.add(p);
                break;
            case "child":
                Child c = new Child();
                c.learn = n.get(0); c.forget = n.get(1); c.voice = n.get(2); c.dread = n.get(3); c.ill = n.get(4);
                told.children.add(c);
                break;
            case "scene":
                Scene s = new Scene();
                s.minutes = n.get(0);
                s.parts.addAll(n.subList(1, n.size()));
                told.scenes.add(s);
                break;
            default:
                told.children.get(n.get(0)).wishes = new ArrayList<>(n.subList(1, n.size()));
        }
    }

    int put(int what, int v) {
        if (what < 0 || what > 1 || v < 0 || v > (what == 0 ? 3 : 1)) return bad(-2);
        int was = what == 0 ? all.change : all.each;
        if (what == 0) all.change = v;
        else all.each = v;
        return was;
    }

    private int wished(int c, int p) {
        int i = all.children.get(c).wishes.indexOf(p);
        return i == 0 ? 6 : i == 1 ? 4 : i == 2 ? 2 : 0;
    }

    private int fitBy(int kind, int c, int p) {
        Child child = all.children.get(c);
        switch (kind) {
            case 0: return 10 - Math.abs(child.voice - all.parts.get(p).need) + wished(c, p);
            case 1: return fitBy(0, c, p) + wished(c, p);
            case 2: return Math.max(0, fitBy(0, c, p) + child.learn - child.dread);
            case 3: return Math.max(5, fitBy(0, c, p));
            case 4: return fitBy(3, c, p) / 2;
            case 5: return fitBy(3, c, p) + child.dread;
            default: return fitBy(2, c, p) / 2;
        }
    }

    private int fitFor(int c, int p) { return fitBy(all.parts.get(p).kind, c, p); }

    int fit(int c, int p) { return child(c) && part(p) ? fitFor(c, p) : bad(-2); }

    private boolean clashes(int a, int b) {
        for (int i = 0; i < all.scenes.size(); i++)
            for (int j = 0; j < all.scenes.size(); j++)
                if (all.scenes.get(i).parts.contains(a) && all.scenes.get(j).parts.contains(b) && Math.abs(i - j) <= all.change)
                    return true;
        return false;
    }

    int clash(int a, int b) { return !part(a) || !part(b) || a == b ? bad(-2) : clashes(a, b) ? 1 : 0; }

    private boolean clashFree(int[] row) {
        for (int a = 0; a < row.length; a++)
            for (int b = 0; b < a; b++)
                if (row[a] == row[b] && clashes(a, b)) return false;
        return true;
    }

    /** The next row of digits below base, or null behind the last. */
    private static int[] after(int[] row, int base) {
        int[] next = row.clone();
        for (int i = next.length - 1; i >= 0; i--) {
            if (++next[i] < base) return next;
            next[i] = 0;
        }
        return null;
    }

    private int fitOfRow(int[] row) {
        int sum = 0;
        for (int p = 0; p < row.length; p++) sum += fitFor(row[p], p);
        return sum;
    }

    private int[] bestRow() {
        int n = all.children.size();
        int[] best = null;
        int[] row = new int[all.parts.size()];
        if (n == 0 && row.length > 0) return null;
        for (; row != null; row = after(row, n)) {
            boolean[] has = new boolean[n];
            for (int c : row) has[c] = true;
            boolean everyone = true;
            for (boolean h : has) everyone &= h;
            if (all.each == 1 && !everyone || !clashFree(row)) continue;
            if (best == null || fitOfRow(row) > fitOfRow(best)) best = row;
        }
        return best;
    }

    int best(int p) {
        if (p != -1 && !part(p)) return bad(-10);
        int[] row = bestRow();
        if (row == null) return no(-20);
        return p == -1 ? fitOfRow(row) : row[p];
    }

    int fewest() {
        int n = all.parts.size();
        if (n == 0) return 0;
        for (int k = 1; k < n; k++)
            for (int[] row = new int[n]; row != null; row = after(row, k))
                if (clashFree(row)) return k;
        return n;
    }

    int cast(int p, int c) {
        if (!part(p) || c != -1 && !child(c)) return bad(-10);
        int was = all.parts.get(p).cast;
        all.parts.get(p).cast = c;
        return was;
    }

    int takeBest() {
        int[] row = bestRow();
        if (row == null) return no(-3);
        for (int p = 0; p < row.length; p++) all.parts.get(p).cast = row[p];
        return fitOfRow(row);
    }

    private static int goThrough(All a, int s, int m) {
        int sit = 0;
        List<Integer> in = a.scenes.get(s).parts;
        for (int p : in) {
            Part part = a.parts.get(p);
            if (part.cast == -1) continue;
            part.known = Math.min(100, part.known + 10 * a.children.get(part.cast).learn * m / (part.lines + 1));
        }
        for (int c = 0; c < a.children.size(); c++) {
            boolean has = false, plays = false;
            for (int p = 0; p < a.parts.size(); p++) {
                if (a.parts.get(p).cast != c) continue;
                has = true;
                plays |= in.contains(p);
            }
            if (has && !plays) {
                a.children.get(c).sat += m;
                sit++;
            }
        }
        return sit;
    }

    private static void sleep(All a) {
        for (Part p : a.parts)
            if (p.cast != -1) p.known -= a.children.get(p.cast).forget * p.known / 20;
    }

    int rehearse(int s, int m) {
        if (!scene(s) || m < 1 || m > 40) return bad(-2);
        return goThrough(all, s, m);
    }

    int night() {
        sleep(all);
        return 1;
    }

    int known(int p) { return part(p) ? all.parts.get(p).known : bad(-2); }

    int sat(int c) { return child(c) ? all.children.get(c).sat : bad(-2); }

    private int share(int p, int s) {
        int minutes = 0;
        for (Scene t : all.scenes)
            if (t.parts.contains(p)) minutes += t.minutes;
        return all.parts.get(p).lines * all.scenes.get(s).minutes / minutes;
    }

    private int slipsOf(int s) {
        int sum = 0;
        for (int p : all.scenes.get(s).parts) sum += share(p, s) * (100 - all.parts.get(p).known);
        return sum;
    }

    private int slipsOfAll() {
        int sum = 0;
        for (int s = 0; s < all.scenes.size(); s++) sum += slipsOf(s);
        return sum;
    }

    int slips(int s) { return s == -1 ? slipsOfAll() : scene(s) ? slipsOf(s) : bad(-2); }

    int cut() {
        int found = -1, least = Integer.MAX_VALUE;
        for (int p = 0; p < all.parts.size(); p++) {
            int lines = all.parts.get(p).lines;
            all.parts.get(p).lines = lines / 2;
            int slips = slipsOfAll();
            all.parts.get(p).lines = lines;
            if (slips < least) {
                least = slips;
                found = p;
            }
        }
        return found;
    }

    int plan(int d, int m, int i) {
        if (d < 1 || d > 4 || m < 1 || m > 40 || i < -1 || i >= d) return bad(-2);
        if (all.scenes.isEmpty()) return no(-3);
        int bestKnown = -1, bestSitting = 0;
        int[] best = null;
        for (int[] row = new int[d]; row != null; row = after(row, all.scenes.size())) {
            All dream = all.copy();
            for (Child c : dream.children) c.sat = 0;
            for (int s : row) {
                goThrough(dream, s, m);
                sleep(dream);
            }
            int least = 100, sitting = 0;
            for (Part p : dream.parts)
                if (p.lines > 0) least = Math.min(least, p.known);
            for (Child c : dream.children) sitting += c.sat;
            if (least > bestKnown || least == bestKnown && sitting < bestSitting) {
                bestKnown = least;
                bestSitting = sitting;
                best = row;
            }
        }
        return i == -1 ? bestKnown : best[i];
    }

    int behind(int p, int c) {
        if (!part(p) || c != -1 && !child(c)) return bad(-10);
        int was = all.parts.get(p).behind;
        all.parts.get(p).behind = c;
        return was;
    }

    private BigInteger chance() {
        BigInteger sum = BigInteger.ZERO;
        int n = all.children.size();
        int[] ill = new int[n];
        do {
            BigInteger ways = BigInteger.ONE;
            for (int c = 0; c < n; c++) {
                int v = all.children.get(c).ill;
                ways = ways.multiply(BigInteger.valueOf(ill[c] == 1 ? v : 20 - v));
            }
            int[] row = new int[all.parts.size()];
            boolean played = true;
            for (int p = 0; p < row.length; p++) {
                row[p] = all.parts.get(p).cast;
                if (row[p] == -1 || ill[row[p]] == 1) row[p] = all.parts.get(p).behind;
                if (row[p] == -1 || ill[row[p]] == 1) played = false;
            }
            if (played && clashFree(row)) sum = sum.add(ways);
            ill = after(ill, 2);
        } while (ill != null);
        return sum;
    }

    private void become(BigInteger a, BigInteger b) {
        BigInteger g = a.gcd(b);
        above = a.divide(g);
        below = b.divide(g);
    }

    int odds() {
        become(chance(), BigInteger.valueOf(20).pow(all.children.size()));
        return 1;
    }

    int next() {
        BigInteger now = chance();
        List<Object[]> rows = new ArrayList<>();
        for (int p = 0; p < all.parts.size(); p++) {
            Part part = all.parts.get(p);
            if (part.behind != -1) continue;
            for (int c = 0; c < all.children.size(); c++) {
                if (part.cast == c) continue;
                part.behind = c;
                BigInteger then = chance();
                part.behind = -1;
                int hours = (int) Math.ceil(part.lines / (double) all.children.get(c).learn);
                if (then.compareTo(now) > 0) rows.add(new Object[] {then, hours, 10 * p + c});
            }
        }
        rows.sort((a, b) -> {
            int by = ((BigInteger) b[0]).compareTo((BigInteger) a[0]);
            return by != 0 ? by : Integer.compare((Integer) a[1], (Integer) b[1]);
        });
        return rows.isEmpty() ? -1 : (Integer) rows.get(0)[2];
    }

    private int othersThanCast(int[] row) {
        int others = 0;
        for (int p = 0; p < row.length; p++)
            if (row[p] != all.parts.get(p).cast) others++;
        return others;
    }

    int hot(int c, int p) {
        if (!child(c) || p != -1 && !part(p)) return bad(-10);
        int[] best = null;
        for (int[] row = new int[all.parts.size()]; row != null; row = after(row, all.children.size())) {
            boolean plays = false;
            for (int who : row) plays |= who == c;
            if (plays || !clashFree(row)) continue;
            int by = best == null ? -1 : othersThanCast(row) - othersThanCast(best);
            if (by < 0 || by == 0 && fitOfRow(row) > fitOfRow(best)) best = row;
        }
        if (best == null) return no(-20);
        return p == -1 ? othersThanCast(best) : best[p];
    }

    private int[] lotsBy(int rule, List<List<Integer>> told) {
        int[] got = new int[told.size()];
        Arrays.fill(got, -1);
        List<Integer> taken = new ArrayList<>();
        if (rule == 0) {
            for (int c = 0; c < got.length; c++)
                for (int p : told.get(c))
                    if (got[c] == -1 && !taken.contains(p)) {
                        got[c] = p;
                        taken.add(p);
                    }
            return got;
        }
        for (int round = 0; round < 3; round++)
            for (int c = 0; c < got.length; c++) {
                if (got[c] != -1 || told.get(c).size() <= round || taken.contains(told.get(c).get(round))) continue;
                got[c] = told.get(c).get(round);
                taken.add(got[c]);
            }
        return got;
    }

    private List<List<Integer>> truth() {
        List<List<Integer>> told = new ArrayList<>();
        for (Child c : all.children) told.add(c.wishes);
        return told;
    }

    int lots(int rule, int c) {
        if (rule < 0 || rule > 1 || !child(c)) return bad(-10);
        return lotsBy(rule, truth())[c];
    }

    private static void rows(List<Integer> begun, int parts, List<List<Integer>> into) {
        if (!begun.isEmpty()) into.add(begun);
        if (begun.size() == 3) return;
        for (int p = 0; p < parts; p++) {
            if (begun.contains(p)) continue;
            List<Integer> longer = new ArrayList<>(begun);
            longer.add(p);
            rows(longer, parts, into);
        }
    }

    int gains(int rule) {
        if (rule < 0 || rule > 1) return bad(-10);
        List<List<Integer>> rows = new ArrayList<>();
        rows(new ArrayList<>(), all.parts.size(), rows);
        for (int c = 0; c < all.children.size(); c++) {
            List<Integer> wishes = all.children.get(c).wishes;
            int got = lotsBy(rule, truth())[c];
            List<Integer> ahead = got == -1 ? wishes : wishes.subList(0, wishes.indexOf(got));
            for (List<Integer> row : rows) {
                List<List<Integer>> told = truth();
                told.set(c, row);
                if (ahead.contains(lotsBy(rule, told)[c])) return c;
            }
        }
        return -1;
    }

    int tried(int a, int g, int h, int n, int k) {
        if (a < 0 || a > 20 || g < 0 || g > 10 || h < 0 || h > 10 || n < 1 || n > 9 || k < 0 || k > n) return bad(-2);
        BigInteger good = BigInteger.valueOf(g).pow(k).multiply(BigInteger.valueOf(10 - g).pow(n - k)).multiply(BigInteger.valueOf(a));
        BigInteger not = BigInteger.valueOf(h).pow(k).multiply(BigInteger.valueOf(10 - h).pow(n - k)).multiply(BigInteger.valueOf(20 - a));
        if (good.add(not).signum() == 0) return no(-3);
        become(good, good.add(not));
        return 1;
    }

    int year(int chose) {
        if (chose != 0 && chose != 1) return bad(-2);
        if (all.years.size() == 10) return full();
        all.years.add(chose);
        return all.years.size();
    }

    int forget() {
        int had = all.years.size();
        all.years.clear();
        return had;
    }

    int leans(int which) {
        if (which < 0 || which > 2) return bad(-2);
        BigInteger[] weights = {BigInteger.ONE, BigInteger.ONE, BigInteger.ONE};
        int[] reader = {8, 2, 5};
        for (int y : all.years)
            for (int i = 0; i < 3; i++)
                weights[i] = weights[i].multiply(BigInteger.valueOf(y == 0 ? reader[i] : 10 - reader[i]));
        become(weights[which], weights[0].add(weights[1]).add(weights[2]));
        return 1;
    }

    private static List<Integer> limbsOf(BigInteger v) {
        List<Integer> limbs = new ArrayList<>();
        for (BigInteger rest = v; rest.signum() > 0; rest = rest.divide(BASE)) limbs.add(rest.mod(BASE).intValue());
        return limbs;
    }

    int sign(int what) {
        if (what < 0 || what > 2) return bad(-2);
        return what == 0 ? above.signum() : limbsOf(what == 1 ? above : below).size();
    }

    int limb(int which, int i) {
        if (which < 0 || which > 1 || i < 0) return bad(-2);
        List<Integer> limbs = limbsOf(which == 0 ? above : below);
        return i < limbs.size() ? limbs.get(i) : -1;
    }

    int image(int i) {
        if (i < 0 || i > 1) return bad(-2);
        images[i] = all.copy();
        return 1;
    }

    int from(int i) {
        if (i < 0 || i > 1) return bad(-2);
        if (images[i] == null) return no(-3);
        all = images[i].copy();
        return 1;
    }

    int status(int what) { return what < 0 || what > 2 ? bad(-1) : refused[what]; }

    private int[] counts() {
        return new int[] {all.parts.size(), all.children.size(), all.scenes.size(), all.years.size(), all.book.length()};
    }

    int count(int what) { return what < 0 || what > 4 ? bad(-2) : counts()[what]; }

    long digest() {
        List<Integer> row = new ArrayList<>();
        for (int v : counts()) row.add(v);
        for (Part p : all.parts) row.addAll(List.of(p.kind, p.lines, p.need, p.cast, p.behind, p.known));
        for (Child c : all.children) {
            row.addAll(List.of(c.learn, c.forget, c.voice, c.dread, c.ill));
            for (int i = 0; i < 3; i++) row.add(i < c.wishes.size() ? c.wishes.get(i) : -1);
            row.add(c.sat);
        }
        for (Scene s : all.scenes) {
            int bits = 0;
            for (int p : s.parts) bits += 1 << p;
            row.addAll(List.of(s.minutes, bits));
        }
        row.addAll(List.of(all.change, all.each));
        for (char b : all.book.toCharArray()) row.add((int) b);
        row.addAll(all.years);
        row.addAll(List.of(above.signum(), limbsOf(above).size(), limbsOf(below).size()));
        row.addAll(limbsOf(above));
        row.addAll(limbsOf(below));
        long h = 607;
        for (int v : row) h = 31 * h + v;
        return h;
    }
}
