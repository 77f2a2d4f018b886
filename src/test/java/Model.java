import java.math.BigInteger;
import java.util.ArrayDeque;
import java.util.ArrayList;
import java.util.Arrays;
import java.util.Deque;
import java.util.List;

/**
 * The document a second time, written in another way (an automaton and a shunting yard for rules,
 * lists of whole states for DAYS, counting through all rows for searches), to compare with.
 */
final class Model {
    static final class Person {
        int age;
        int place;
        int deeds;

        Person(int age, int place, int deeds) {
            this.age = age;
            this.place = place;
            this.deeds = deeds;
        }
    }

    static final class World {
        List<Person> folk = new ArrayList<>();
        int day;

        World copy() {
            World w = new World();
            w.day = day;
            for (Person p : folk) {
                w.folk.add(new Person(p.age, p.place, p.deeds));
            }
            return w;
        }

        int ages() {
            return folk.stream().mapToInt(p -> p.age).sum();
        }
    }

    static final String USUAL = "s*w/9";

    String text = "";
    List<Integer> lights = new ArrayList<>();
    String skies = "9";
    String rule = USUAL;
    World now = new World();
    List<World> past = new ArrayList<>();
    World[] kept = new World[2];
    List<int[]> seen = new ArrayList<>();
    List<int[]> heard = new ArrayList<>();
    long[] row = {};

    // ---- rules

    /** The first sign that can't stand, or -1. */
    static int badRule(String t) {
        Deque<Boolean> compared = new ArrayDeque<>();
        compared.push(false);
        boolean wantsThing = true;
        int digits = 0;
        for (int p = 0; p < t.length(); p++) {
            if (p == 40) {
                return 40;
            }
            char c = t.charAt(p);
            boolean digit = c >= '0' && c <= '9';
            if (wantsThing) {
                if (c == '-') {
                    continue;
                }
                if (c == '(' && compared.size() <= 4) {
                    compared.push(false);
                } else if (digit || "swakpin".indexOf(c) >= 0) {
                    wantsThing = false;
                    digits = digit ? 1 : 3;
                } else {
                    return p;
                }
            } else if (digit && digits < 3) {
                digits++;
            } else if (c == ')' && compared.size() > 1) {
                compared.pop();
                digits = 3;
            } else if ("+-*/".indexOf(c) >= 0) {
                wantsThing = true;
            } else if ("<>=".indexOf(c) >= 0 && !compared.peek()) {
                compared.pop();
                compared.push(true);
                wantsThing = true;
            } else {
                return p;
            }
        }
        return wantsThing || compared.size() > 1 ? t.length() : -1;
    }

    private static int strength(char op) {
        return "<>=".indexOf(op) >= 0 ? 1 : "+-".indexOf(op) >= 0 ? 2 : "*/".indexOf(op) >= 0 ? 3 : op == '~' ? 4 : 0;
    }

    private static void apply(Deque<Integer> values, char op) {
        int right = values.pop();
        if (op == '~') {
            values.push(-right);
            return;
        }
        int left = values.pop();
        values.push(switch (op) {
            case '<' -> left < right ? 1 : 0;
            case '>' -> left > right ? 1 : 0;
            case '=' -> left == right ? 1 : 0;
            case '+' -> left + right;
            case '-' -> left - right;
            case '*' -> left * right;
            default -> right == 0 ? 0 : left / right;
        });
    }

    static int value(String t, int[] letters) {
        Deque<Integer> values = new ArrayDeque<>();
        Deque<Character> ops = new ArrayDeque<>();
        boolean wantsThing = true;
        for (int p = 0; p < t.length(); p++) {
            char c = t.charAt(p);
            if (wantsThing) {
                if (c == '-') {
                    ops.push('~');
                } else if (c == '(') {
                    ops.push('(');
                } else if (c >= '0' && c <= '9') {
                    int end = p;
                    while (end < t.length() && t.charAt(end) >= '0' && t.charAt(end) <= '9') {
                        end++;
                    }
                    values.push(Integer.parseInt(t.substring(p, end)));
                    p = end - 1;
                    wantsThing = false;
                } else {
                    values.push(letters["swakpin".indexOf(c)]);
                    wantsThing = false;
                }
            } else if (c == ')') {
                while (ops.peek() != '(') {
                    apply(values, ops.pop());
                }
                ops.pop();
            } else {
                while (!ops.isEmpty() && strength(ops.peek()) >= strength(c)) {
                    apply(values, ops.pop());
                }
                ops.push(c);
                wantsThing = true;
            }
        }
        while (!ops.isEmpty()) {
            apply(values, ops.pop());
        }
        return values.pop();
    }

    // ---- hours

    int sky(int day) {
        return skies.charAt(day % skies.length()) - '0';
    }

    int hours(String by, World w, int one, int place, int others, int sky) {
        int[] letters = {lights.get(place), sky, w.folk.get(one).age % 10, others, place, one, w.day % 7};
        return Math.max(0, Math.min(9, value(by, letters)));
    }

    int others(World w, int one, int place) {
        int many = 0;
        for (int i = 0; i < w.folk.size(); i++) {
            if (i != one && w.folk.get(i).place == place) {
                many++;
            }
        }
        return many;
    }

    int hours(String by, World w, int one) {
        int place = w.folk.get(one).place;
        return hours(by, w, one, place, others(w, one, place), sky(w.day));
    }

    int hoursUnder(World w, int one, int sky) {
        int place = w.folk.get(one).place;
        return hours(rule, w, one, place, others(w, one, place), sky);
    }

    int[] allHours(String by, World w) {
        int[] all = new int[w.folk.size()];
        for (int i = 0; i < all.length; i++) {
            all[i] = hours(by, w, i);
        }
        return all;
    }

    World next(String by, World w) {
        int[] all = allHours(by, w);
        World v = w.copy();
        for (int i = 0; i < all.length; i++) {
            v.folk.get(i).age = Math.min(9999, v.folk.get(i).age + all[i]);
        }
        v.day++;
        return v;
    }

    /** The states in 0 .. n DAYS. */
    List<World> future(String by, World w, int n) {
        List<World> all = new ArrayList<>();
        all.add(w);
        for (int i = 0; i < n; i++) {
            all.add(next(by, all.get(i)));
        }
        return all;
    }

    int sumOf(int[] a) {
        return Arrays.stream(a).sum();
    }

    boolean is(int one) {
        return one >= 0 && one < now.folk.size();
    }

    // ---- calls

    int sign(int v) {
        if (text.length() + 4 > 80) {
            return -1;
        }
        text += "" + (char) (v >>> 24) + (char) (v >>> 16 & 255) + (char) (v >>> 8 & 255) + (char) (v & 255);
        return text.length();
    }

    int end(int n) {
        if (n < 0 || n > text.length()) {
            return 0;
        }
        text = text.substring(0, n);
        return 1;
    }

    private String take() {
        String t = text;
        text = "";
        return t;
    }

    /** The first sign that can't stand where signs fit a pattern by place, lines there are. */
    private int badLines(String t, int digits, int most, int there) {
        if (t.isEmpty()) {
            return -1;
        }
        int longest = most * (digits + 1) - 1;
        for (int p = 0; p <= Math.min(t.length(), longest); p++) {
            int column = p % (digits + 1);
            int line = p / (digits + 1);
            boolean atEnd = p == t.length();
            if (atEnd && column == digits) {
                return -1;
            }
            if (atEnd || p == longest) {
                return p;
            }
            char c = t.charAt(p);
            if (column == 0 && there + line >= most) {
                return p;
            }
            if (column == digits ? c != ';' : c < '0' || c > '9') {
                return p;
            }
            if (digits == 3 && column == 2 && c - '0' >= lights.size()) {
                return p;
            }
        }
        return longest;
    }

    private void forgetAll() {
        past.clear();
        kept = new World[2];
    }

    int places() {
        String t = take();
        int bad = badLines(t, 1, 6, lights.size());
        if (bad >= 0) {
            return -1 - bad;
        }
        if (t.isEmpty()) {
            return 0;
        }
        String[] lines = t.split(";");
        for (String line : lines) {
            lights.add(Integer.parseInt(line));
        }
        forgetAll();
        return lines.length;
    }

    int people() {
        String t = take();
        int bad = badLines(t, 3, 7, now.folk.size());
        if (bad >= 0) {
            return -1 - bad;
        }
        if (t.isEmpty()) {
            return 0;
        }
        String[] lines = t.split(";");
        for (String line : lines) {
            now.folk.add(new Person(Integer.parseInt(line.substring(0, 2)), line.charAt(2) - '0', 0));
        }
        forgetAll();
        return lines.length;
    }

    int skies() {
        String t = take();
        for (int p = 0; p <= t.length(); p++) {
            if (p == t.length()) {
                if (p == 0) {
                    return -1;
                }
            } else if (p == 20 || t.charAt(p) < '0' || t.charAt(p) > '9') {
                return -1 - p;
            }
        }
        skies = t;
        return t.length();
    }

    int rule() {
        String t = take();
        int bad = t.isEmpty() ? -1 : badRule(t);
        if (bad >= 0) {
            return -1 - bad;
        }
        rule = t.isEmpty() ? USUAL : t;
        return 0;
    }

    long one(int one, int what) {
        if (!is(one) || what < 0 || what > 3) {
            return Check.THROWS;
        }
        Person p = now.folk.get(one);
        return new int[] {p.age, p.place, p.deeds, hours(rule, now, one)}[what];
    }

    long place(int place, int what) {
        if (place < 0 || place >= lights.size() || what < 0 || what > 2) {
            return Check.THROWS;
        }
        int bits = 0;
        int ages = 0;
        for (int i = 0; i < now.folk.size(); i++) {
            if (now.folk.get(i).place == place) {
                bits += 1 << i;
                ages += now.folk.get(i).age;
            }
        }
        return new int[] {lights.get(place), bits, ages}[what];
    }

    int sheet(int kind, int n, int f, int step) {
        if (kind < 0 || kind > 3 || n > 6) {
            return -1;
        }
        if (kind < 3 && n < 0) {
            return -2;
        }
        for (int i = 0; i < lights.size(); i++) {
            int entry = f + i * step;
            int v = kind == 0 ? (byte) entry : kind == 1 ? (short) entry : entry;
            lights.set(i, kind < 3 && i < n ? Math.max(0, Math.min(9, v)) : 0);
        }
        return kind == 3 ? -3 : lights.stream().mapToInt(v -> v).sum();
    }

    private void remember(World w) {
        past.add(w);
        if (past.size() > 12) {
            past.remove(0);
        }
    }

    int days(int n) {
        if (n < 0 || n > 60) {
            return -1;
        }
        World was = now.copy();
        int sum = 0;
        int none = 0;
        for (int i = 0; i < n; i++) {
            int h = sumOf(allHours(rule, now));
            sum += h;
            none += h == 0 ? 1 : 0;
            now = next(rule, now);
        }
        row = new long[] {sum, none};
        if (n > 0) {
            remember(was);
        }
        return now.ages();
    }

    private int move(World w, int one, int place) {
        if (!is(one) || place < 0 || place >= lights.size()) {
            return -1;
        }
        int was = w.folk.get(one).place;
        if (was == place) {
            return -2;
        }
        w.folk.get(one).place = place;
        return 10 + was;
    }

    private int doubt(World w, int one, int n) {
        if (!is(one) || n < 1 || n > 99) {
            return -1;
        }
        Person p = w.folk.get(one);
        if (p.age == 0) {
            return -2;
        }
        p.age = Math.max(0, p.age - n);
        return p.age;
    }

    private int kept(World was, int answer) {
        if (answer >= 0) {
            remember(was);
        }
        return answer;
    }

    int moves(int one, int place) {
        World was = now.copy();
        return kept(was, move(now, one, place));
    }

    int doubts(int one, int n) {
        World was = now.copy();
        return kept(was, doubt(now, one, n));
    }

    private int swap(int one, int other) {
        if (!is(one) || !is(other) || one == other) {
            return -1;
        }
        Person a = now.folk.get(one);
        Person b = now.folk.get(other);
        if (a.place == b.place) {
            return -2;
        }
        int p = a.place;
        a.place = b.place;
        b.place = p;
        return Math.abs(a.place - b.place);
    }

    int swaps(int one, int other) {
        World was = now.copy();
        return kept(was, swap(one, other));
    }

    private int deed(int one) {
        if (!is(one)) {
            return -1;
        }
        if (hours(rule, now, one) != 0) {
            return -2;
        }
        Person p = now.folk.get(one);
        p.deeds = Math.min(99, p.deeds + 1);
        return p.deeds;
    }

    int deeds(int one) {
        World was = now.copy();
        return kept(was, deed(one));
    }

    int life() {
        String t = take();
        List<String> acts = new ArrayList<>();
        int p = 0;
        while (p < t.length()) {
            if (p == 60) {
                return -61;
            }
            int due = switch (t.charAt(p)) {
                case 'n', 'd' -> 1;
                case 'm', 's' -> 2;
                case 'y' -> 3;
                default -> 0;
            };
            if (due == 0) {
                return -1 - p;
            }
            for (int i = 1; i <= due; i++) {
                if (p + i >= t.length() || p + i == 60 || t.charAt(p + i) < '0' || t.charAt(p + i) > '9') {
                    return -1 - (p + i);
                }
            }
            acts.add(t.substring(p, p + 1 + due));
            p += 1 + due;
        }
        World was = now.copy();
        int done = 0;
        long failed = 0;
        for (String act : acts) {
            int first = act.charAt(1) - '0';
            int rest = act.length() > 2 ? Integer.parseInt(act.substring(2)) : 0;
            int answer = switch (act.charAt(0)) {
                case 'n' -> {
                    for (int i = 0; i < first; i++) {
                        now = next(rule, now);
                    }
                    yield 0;
                }
                case 'm' -> move(now, first, rest);
                case 's' -> swap(first, rest);
                case 'd' -> deed(first);
                default -> doubt(now, first, rest);
            };
            if (answer < 0) {
                failed = 1;
                break;
            }
            done++;
        }
        if (done > 0) {
            remember(was);
        }
        row = new long[] {failed, now.ages()};
        return done;
    }

    int undo() {
        if (past.isEmpty()) {
            return -1;
        }
        now = past.remove(past.size() - 1);
        return past.size();
    }

    int later(int one, int n) {
        if (!is(one) || n < 0 || n > 99) {
            return -1;
        }
        World w = future(rule, now, n).get(n);
        row = new long[] {hours(rule, w, one), w.ages()};
        return w.folk.get(one).age;
    }

    int when(int one, int v) {
        if (!is(one) || v < 0 || v > 9999) {
            return -1;
        }
        List<World> all = future(rule, now, 99);
        for (int t = 0; t < 100; t++) {
            int age = all.get(t).folk.get(one).age;
            if (age >= v) {
                row = new long[] {age};
                return t;
            }
        }
        return -2;
    }

    int even(int one, int other) {
        if (!is(one) || !is(other) || one == other) {
            return -1;
        }
        List<Integer> times = new ArrayList<>();
        List<World> all = future(rule, now, 99);
        for (int t = 0; t < 100; t++) {
            if (all.get(t).folk.get(one).age == all.get(t).folk.get(other).age) {
                times.add(t);
            }
        }
        if (times.isEmpty()) {
            return -2;
        }
        row = new long[] {all.get(times.get(0)).folk.get(one).age, times.size()};
        return times.get(0);
    }

    private List<Integer> byAge(World w) {
        List<Integer> all = new ArrayList<>();
        for (int i = 0; i < w.folk.size(); i++) {
            all.add(i);
        }
        all.sort((a, b) -> w.folk.get(b).age - w.folk.get(a).age);
        return all;
    }

    int passes() {
        if (now.folk.isEmpty()) {
            return -2;
        }
        int eldest = byAge(now).get(0);
        List<World> all = future(rule, now, 99);
        for (int t = 1; t < 100; t++) {
            int then = byAge(all.get(t)).get(0);
            if (then != eldest) {
                row = new long[] {then, eldest};
                return t;
            }
        }
        return -2;
    }

    int order() {
        row = byAge(now).stream().mapToLong(i -> i).toArray();
        return now.folk.size();
    }

    private int[] hoursAhead(int one, int n) {
        List<World> all = future(rule, now, n);
        int[] h = new int[n];
        for (int t = 0; t < n; t++) {
            h[t] = hours(rule, all.get(t), one);
        }
        return h;
    }

    int summer(int one, int n) {
        if (!is(one) || n < 1 || n > 20) {
            return -1;
        }
        int[] h = hoursAhead(one, 60);
        int most = -1;
        for (int t = 0; t + n <= 60; t++) {
            int sum = sumOf(Arrays.copyOfRange(h, t, t + n));
            if (sum > most) {
                most = sum;
                row = new long[] {t};
            }
        }
        return most;
    }

    int nights(int one, int n) {
        if (!is(one) || n < 1 || n > 99) {
            return -1;
        }
        int[] h = hoursAhead(one, n);
        row = new long[] {0, 0};
        int many = 0;
        for (int t = 0; t < n; t++) {
            many += h[t] == 0 ? 1 : 0;
            int run = 0;
            while (t + run < n && h[t + run] == 0) {
                run++;
            }
            if (run > row[0]) {
                row = new long[] {run, t};
            }
        }
        return many;
    }

    int apart(int n) {
        if (n < 0 || n > 99) {
            return -1;
        }
        if (now.folk.size() < 2) {
            return -2;
        }
        List<Person> f = future(rule, now, n).get(n).folk;
        int most = -1;
        for (int i = 0; i < f.size(); i++) {
            for (int j = i + 1; j < f.size(); j++) {
                if (Math.abs(f.get(i).age - f.get(j).age) > most) {
                    most = Math.abs(f.get(i).age - f.get(j).age);
                    row = new long[] {i, j};
                }
            }
        }
        return most;
    }

    int sunniest() {
        List<World> all = future(rule, now, 60);
        int best = 0;
        long most = -1;
        for (int t = 0; t < 60; t++) {
            int h = sumOf(allHours(rule, all.get(t)));
            if (h > most) {
                most = h;
                best = t;
            }
        }
        row = new long[] {most};
        return best;
    }

    /** One at the PLACES of a row, DAY by DAY: HOURS together, AGE then. */
    private int[] along(int one, int[] path) {
        World w = now.copy();
        int sum = 0;
        for (int place : path) {
            w.folk.get(one).place = place;
            sum += hours(rule, w, one);
            w = next(rule, w);
        }
        return new int[] {sum, w.folk.get(one).age};
    }

    private List<int[]> paths(int n) {
        List<int[]> all = new ArrayList<>();
        all.add(new int[0]);
        for (int i = 0; i < n; i++) {
            List<int[]> more = new ArrayList<>();
            for (int[] path : all) {
                for (int p = 0; p < lights.size(); p++) {
                    int[] longer = Arrays.copyOf(path, path.length + 1);
                    longer[path.length] = p;
                    more.add(longer);
                }
            }
            all = more;
        }
        return all;
    }

    private static long[] longs(int[] a) {
        return Arrays.stream(a).asLongStream().toArray();
    }

    int comes(int one, int v) {
        if (!is(one) || v < 0 || v > 9999) {
            return -1;
        }
        for (int n = 0; n <= 4; n++) {
            for (int[] path : paths(n)) {
                if (along(one, path)[1] == v) {
                    row = longs(path);
                    return n;
                }
            }
        }
        return -2;
    }

    int ways(int one, int g, int n) {
        if (!is(one) || g < 0 || g > 36 || n < 0 || n > 4) {
            return -1;
        }
        row = new long[0];
        int many = 0;
        for (int[] path : paths(n)) {
            if (along(one, path)[0] == g) {
                if (many == 0) {
                    row = longs(path);
                }
                many++;
            }
        }
        return many;
    }

    private World stayed(int one, int place, int n) {
        World w = now.copy();
        w.folk.get(one).place = place;
        return future(rule, w, n).get(n);
    }

    int hides(int one, int n) {
        if (!is(one) || n < 1 || n > 60) {
            return -1;
        }
        int best = -1;
        int least = 99999;
        int most = 0;
        for (int p = 0; p < lights.size(); p++) {
            int age = stayed(one, p, n).folk.get(one).age;
            most = Math.max(most, age);
            if (age < least) {
                least = age;
                best = p;
            }
        }
        row = new long[] {least, most};
        return best;
    }

    int meets(int one, int other, int n) {
        if (!is(one) || !is(other) || one == other || n < 1 || n > 60) {
            return -1;
        }
        int best = -1;
        int least = 99999;
        for (int p = 0; p < lights.size(); p++) {
            World w = stayed(one, p, n);
            int differ = Math.abs(w.folk.get(one).age - w.folk.get(other).age);
            if (differ < least) {
                least = differ;
                best = p;
            }
        }
        row = new long[] {least};
        return best;
    }

    private int rooms(int sense) {
        int many = now.folk.size();
        if (many == 0 || many > lights.size()) {
            return -2;
        }
        int best = Integer.MIN_VALUE;
        for (int[] path : paths(many)) {
            if (Arrays.stream(path).distinct().count() == many) {
                int sum = 0;
                for (int i = 0; i < many; i++) {
                    sum += hours(rule, now, i, path[i], 0, sky(now.day));
                }
                if (sense * sum > best) {
                    best = sense * sum;
                    row = longs(path);
                }
            }
        }
        return sense * best;
    }

    int rooms() {
        return rooms(1);
    }

    int cellars() {
        return rooms(-1);
    }

    int brightest(int one) {
        if (!is(one)) {
            return -1;
        }
        int[] h = new int[lights.size()];
        for (int p = 0; p < h.length; p++) {
            h[p] = hours(rule, now, one, p, others(now, one, p), sky(now.day));
        }
        int most = Arrays.stream(h).max().getAsInt();
        int bits = 0;
        for (int p = 0; p < h.length; p++) {
            bits += h[p] == most ? 1 << p : 0;
        }
        row = new long[] {most};
        return bits;
    }

    int saw(int one, int h) {
        if (!is(one) || h < 0 || h > 9 || seen.size() == 10) {
            return -1;
        }
        seen.add(new int[] {one, h});
        return seen.size();
    }

    int denies() {
        int many = seen.size();
        seen.clear();
        return many;
    }

    private List<Integer> likelySkies() {
        List<Integer> all = new ArrayList<>();
        for (int x = 0; x < 10; x++) {
            int sky = x;
            if (seen.stream().allMatch(s -> hoursUnder(now, s[0], sky) == s[1])) {
                all.add(x);
            }
        }
        return all;
    }

    int guess() {
        List<Integer> all = likelySkies();
        row = new long[] {all.size(), all.contains(sky(now.day)) ? 1 : 0};
        return all.stream().mapToInt(x -> 1 << x).sum();
    }

    int looks() {
        List<Integer> all = likelySkies();
        if (all.isEmpty() || now.folk.isEmpty()) {
            return -2;
        }
        int best = -1;
        int least = 99;
        for (int i = 0; i < now.folk.size(); i++) {
            int worst = 0;
            for (int h = 0; h < 10; h++) {
                int one = i;
                int had = h;
                worst = Math.max(worst, (int) all.stream().filter(x -> hoursUnder(now, one, x) == had).count());
            }
            if (worst < least) {
                least = worst;
                best = i;
            }
        }
        row = new long[] {least};
        return best;
    }

    int heard(int what, int v) {
        int[] most = {9999, 5, 99, 9, 1};
        if (what < 0 || what > 4 || v < 0 || v > most[what] || heard.size() == 12) {
            return -1;
        }
        heard.add(new int[] {what, v});
        return heard.size();
    }

    int forget() {
        int many = heard.size();
        heard.clear();
        return many;
    }

    private boolean suits(int one, int what, int v) {
        Person p = now.folk.get(one);
        return switch (what) {
            case 0 -> p.age >= v;
            case 1 -> p.place == v;
            case 2 -> p.deeds >= v;
            case 3 -> hours(rule, now, one) >= v;
            default -> others(now, one, p.place) == 0 ? v == 1 : v == 0;
        };
    }

    private List<Integer> likelyOnes() {
        List<Integer> all = new ArrayList<>();
        for (int i = 0; i < now.folk.size(); i++) {
            int one = i;
            if (heard.stream().allMatch(c -> suits(one, c[0], c[1]))) {
                all.add(i);
            }
        }
        return all;
    }

    int fits() {
        List<Integer> all = likelyOnes();
        row = new long[] {all.size()};
        return all.stream().mapToInt(i -> 1 << i).sum();
    }

    int asks() {
        List<Integer> all = likelyOnes();
        if (all.isEmpty()) {
            return -2;
        }
        int best = -1;
        long least = 99;
        for (int q : new int[] {10, 11, 12, 13, 14, 15, 30, 31, 32, 33, 34, 35, 36, 37, 38, 39, 40, 41}) {
            long so = all.stream().filter(i -> suits(i, q / 10, q % 10)).count();
            long worst = Math.max(so, all.size() - so);
            if (worst < least) {
                least = worst;
                best = q;
            }
        }
        row = new long[] {least};
        return best;
    }

    int chance(int one, int n, int p, int g) {
        if (!is(one) || n < 0 || n > 8 || p < 0 || p > 10 || g < 0 || g > 72) {
            return -1;
        }
        BigInteger good = BigInteger.ZERO;
        for (int bits = 0; bits < 1 << n; bits++) {
            World w = now.copy();
            int sum = 0;
            BigInteger weight = BigInteger.ONE;
            for (int t = 0; t < n; t++) {
                boolean bright = (bits >> t & 1) != 0;
                int h = hoursUnder(w, one, bright ? 9 : 0);
                sum += h;
                w.folk.get(one).age = Math.min(9999, w.folk.get(one).age + h);
                w.day++;
                weight = weight.multiply(BigInteger.valueOf(bright ? p : 10 - p));
            }
            if (sum >= g) {
                good = good.add(weight);
            }
        }
        BigInteger all = BigInteger.TEN.pow(n);
        BigInteger common = good.gcd(all);
        row = new long[] {good.divide(common).longValue(), all.divide(common).longValue()};
        return 0;
    }

    /** Whether who is to take 1 .. most of rest wins. */
    private static final Boolean[][] WINS = new Boolean[61][130];

    private static boolean wins(int rest, int most) {
        int m = Math.min(rest, most);
        if (WINS[rest][m] == null) {
            boolean won = false;
            for (int take = 1; take <= m; take++) {
                won |= !wins(rest - take, 2 * take);
            }
            WINS[rest][m] = won;
        }
        return WINS[rest][m];
    }

    int parasol(int n) {
        if (n < 0 || n > 60) {
            return -1;
        }
        for (int take = 1; take < n; take++) {
            if (!wins(n - take, 2 * take)) {
                return take;
            }
        }
        return 0;
    }

    private int[] payoff(int v, int x, int y) {
        if (x == y) {
            return new int[] {v / 3 - x, v / 3 - y};
        }
        return x < y ? new int[] {-x, v - x} : new int[] {v - y, -y};
    }

    int rests(int v) {
        if (v < 0 || v > 20) {
            return -1;
        }
        row = new long[0];
        int many = 0;
        for (int x = 0; x < 10; x++) {
            for (int y = 0; y < 10; y++) {
                boolean good = true;
                for (int z = 0; z < 10; z++) {
                    good &= payoff(v, z, y)[0] <= payoff(v, x, y)[0] && payoff(v, x, z)[1] <= payoff(v, x, y)[1];
                }
                if (good) {
                    if (many == 0) {
                        row = new long[] {x, y};
                    }
                    many++;
                }
            }
        }
        return many;
    }

    int law() {
        String t = take();
        int bad = t.isEmpty() ? -1 : badRule(t);
        if (bad >= 0) {
            return -10000 - bad;
        }
        String by = t.isEmpty() ? USUAL : t;
        List<World> mine = future(by, now, 10);
        List<World> usual = future(rule, now, 10);
        long a = 0;
        long b = 0;
        for (int i = 0; i < 10; i++) {
            a += sumOf(allHours(by, mine.get(i)));
            b += sumOf(allHours(rule, usual.get(i)));
        }
        row = new long[2 + now.folk.size()];
        row[0] = a;
        row[1] = b;
        for (int i = 0; i < now.folk.size(); i++) {
            row[2 + i] = mine.get(10).folk.get(i).age;
        }
        return (int) (a - b);
    }

    private int r;

    private int draw(int n) {
        r = r * 1103515245 + 12345;
        return (int) ((r & 0xffffffffL) / 65536 % n);
    }

    /** Taken for a question: it stands with the questions, and undo() does not name it. */
    int years(int seed, int n) {
        if (n < 1 || n > 60) {
            return -1;
        }
        World w = now.copy();
        r = seed;
        int sum = 0;
        for (int i = 0; i < n; i++) {
            int kind = draw(4);
            if (kind <= 1) {
                sum += sumOf(allHours(rule, w));
                w = next(rule, w);
            } else if (!w.folk.isEmpty()) {
                int one = draw(w.folk.size());
                if (kind == 2) {
                    move(w, one, draw(lights.size()));
                } else {
                    doubt(w, one, 1 + draw(9));
                }
            }
        }
        row = new long[] {sum, w.day % 100};
        return w.ages();
    }

    int keep(int i) {
        if (i != 0 && i != 1) {
            return 0;
        }
        kept[i] = now.copy();
        return 1;
    }

    int again(int i) {
        if (i != 0 && i != 1 || kept[i] == null) {
            return 0;
        }
        now = kept[i].copy();
        past.clear();
        return 1;
    }

    int count(int what) {
        return switch (what) {
            case 0 -> lights.size();
            case 1 -> now.folk.size();
            case 2 -> now.day;
            case 3 -> sky(now.day);
            case 4 -> now.ages();
            case 5 -> lights.stream().mapToInt(v -> v).sum();
            case 6 -> now.folk.stream().mapToInt(p -> p.deeds).sum();
            case 7 -> sumOf(allHours(rule, now));
            case 8 -> seen.size();
            case 9 -> heard.size();
            case 10 -> past.size();
            case 11 -> row.length;
            case 12 -> text.length();
            default -> -1;
        };
    }

    long row(int i) {
        return i >= 0 && i < row.length ? row[i] : Check.THROWS;
    }
}
