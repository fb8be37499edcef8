import java.util.ArrayDeque;
import java.util.ArrayList;
import java.util.Arrays;
import java.util.List;
import java.util.TreeMap;
import java.util.function.IntPredicate;
import java.util.regex.Matcher;
import java.util.regex.Pattern;

/**
 * The document once more, as slow and plain as can be, for random runs beside the class: it goes
 * through all ways where the class calculates, and keeps whole states where the class keeps steps.
 */
final class Model {
    static final int NONE = -1, BAD = -2, NO = -3, FULL = -4;

    /** Ships {kind, calls}; men {kind, skill, ship}. */
    static final class State {
        final List<int[]> ships = new ArrayList<>();
        final List<int[]> men = new ArrayList<>();
        final List<int[]> seen = new ArrayList<>();
        final List<int[]> notes = new ArrayList<>();
        final List<int[]> marks = new ArrayList<>();
        final ArrayDeque<State> past = new ArrayDeque<>();

        State copy() {
            State s = new State();
            ships.forEach(r -> s.ships.add(r.clone()));
            men.forEach(r -> s.men.add(r.clone()));
            s.seen.addAll(seen);
            s.notes.addAll(notes);
            s.marks.addAll(marks);
            s.past.addAll(past);
            return s;
        }

        List<Integer> at(int place) {
            List<Integer> found = new ArrayList<>();
            for (int m = 0; m < men.size(); m++) {
                if (men.get(m)[2] == place) {
                    found.add(m);
                }
            }
            return found;
        }

        int skills(int place) {
            return at(place).stream().mapToInt(m -> men.get(m)[1]).sum();
        }

        int like(int m) {
            return liked(men.get(m)[0], men.get(m)[1], ships.get(men.get(m)[2])[1]);
        }

        int least(int h) {
            int best = NONE;
            for (int m : at(h)) {
                if (best == NONE || like(m) < like(best)) {
                    best = m;
                }
            }
            return best;
        }

        int call(int h) {
            int m = least(h);
            if (m != NONE) {
                men.get(m)[2] = NONE;
                ships.get(h)[1] = Math.min(99, ships.get(h)[1] + 1);
            }
            return m;
        }

        boolean can(int h, int d) {
            return !at(h).isEmpty() && skills(h) >= need(ships.get(h)[0], d, at(h).size());
        }
    }

    State s = new State();
    final State[] images = new State[2];
    final StringBuilder text = new StringBuilder();
    long above = 0;
    long below = 1;
    final int[] refused = new int[3];

    static int need(int kind, int d, int n) {
        int under = kind == 0 ? 0 : need(new int[] {0, 0, 0, 1, 0, 2}[kind], d, n);
        switch (kind) {
            case 0: return 2 * d;
            case 1: return under + 4;
            case 2: return under / 2 + under % 2;
            case 3: return Math.max(under - 2 * n, 1);
            case 4: return under + (n >= 4 ? 5 : 0);
            default: return n <= 2 ? Math.min(under, 9) : under;
        }
    }

    static int liked(int kind, int skill, int c) {
        int under = kind == 0 ? 0 : liked(new int[] {0, 0, 0, 1, 0, 2}[kind], skill, c);
        switch (kind) {
            case 0: return skill;
            case 1: return under + 5;
            case 2: return Math.max(under - c, 0);
            case 3: return c >= 2 ? under * 2 : under;
            case 4: return c < 3 ? 0 : under;
            default: return c % 5 == 4 ? 0 : under + 9;
        }
    }

    private int no(int reason) {
        refused[BAD - reason]++;
        return reason;
    }

    private boolean noShip(int h) {
        return h < 0 || h >= s.ships.size();
    }

    private boolean noMan(int m) {
        return m < 0 || m >= s.men.size();
    }

    private static boolean out(int x, int least, int most) {
        return x < least || x > most;
    }

    int island() {
        int had = s.men.size();
        s = new State();
        return had;
    }

    int ship(int kind) {
        if (out(kind, 0, 5)) return no(BAD);
        if (s.ships.size() == 3) return no(FULL);
        s.past.clear();
        s.ships.add(new int[] {kind, 0});
        return s.ships.size() - 1;
    }

    int man(int kind, int skill, int h) {
        if (out(kind, 0, 5) || out(skill, 1, 9) || h != NONE && noShip(h)) return no(BAD);
        if (s.men.size() == 8) return no(FULL);
        s.past.clear();
        s.men.add(new int[] {kind, skill, h});
        return s.men.size() - 1;
    }

    int type(int c) {
        if (out(c, 0, 127)) return no(BAD);
        if (text.length() == 150) return no(FULL);
        return text.append((char) c).length();
    }

    int clear() {
        int had = text.length();
        text.setLength(0);
        return had;
    }

    private static final Pattern TOKEN = Pattern.compile(" *([a-z]+|[0-9]+|;|[^ ])");

    int read() {
        List<String> tokens = new ArrayList<>();
        List<Integer> places = new ArrayList<>();
        Matcher m = Pattern.compile(TOKEN.pattern(), Pattern.DOTALL).matcher(text);
        while (m.find()) {
            tokens.add(m.group(1));
            places.add(m.start(1));
        }
        State t = new State();
        int items = 0;
        int at = 0;
        while (at < tokens.size() || items == 0) {
            int[] shape = at < tokens.size() ? shapeOf(tokens.get(at), items, t) : null;
            if (shape == null) return fault(places, at);
            int[] told = new int[shape.length];
            for (int i = 0; i < shape.length; i++) {
                int place = at + 1 + i;
                if (place >= tokens.size() || !tokens.get(place).matches("[0-9]{1,2}")) return fault(places, place);
                told[i] = Integer.parseInt(tokens.get(place));
                if (!stands(tokens.get(at), told, i, t)) return fault(places, place);
            }
            int end = at + 1 + shape.length;
            if (end >= tokens.size() || !tokens.get(end).equals(";")) return fault(places, end);
            act(tokens.get(at), told, t);
            items++;
            at = end + 1;
        }
        s = t;
        return items;
    }

    private int fault(List<Integer> places, int token) {
        return -10 - (token < places.size() ? places.get(token) : text.length());
    }

    private static int[] shapeOf(String word, int items, State t) {
        if (items == 0) return word.equals("island") ? new int[0] : null;
        switch (word) {
            case "ship": return t.ships.size() < 3 ? new int[1] : null;
            case "man": return t.men.size() < 8 ? new int[3] : null;
            case "call": return new int[1];
            case "board": return new int[2];
            default: return null;
        }
    }

    private static boolean stands(String word, int[] told, int i, State t) {
        int v = told[i];
        switch (word + i) {
            case "ship0": case "man0": return v <= 5;
            case "man1": return v >= 1 && v <= 9;
            case "man2": return v == 9 || v < t.ships.size();
            case "call0": return v < t.ships.size() && !t.at(v).isEmpty();
            case "board0": return v < t.ships.size();
            default: return v < t.men.size() && t.men.get(v)[2] == NONE;
        }
    }

    private static void act(String word, int[] told, State t) {
        switch (word) {
            case "ship": t.ships.add(new int[] {told[0], 0}); break;
            case "man": t.men.add(new int[] {told[0], told[1], told[2] == 9 ? NONE : told[2]}); break;
            case "call": t.call(told[0]); break;
            case "board": t.men.get(told[1])[2] = told[0]; break;
            default: break;
        }
    }

    private void remember() {
        s.past.push(s.copy());
        while (s.past.size() > 8) s.past.removeLast();
    }

    int calls(int h) {
        if (noShip(h)) return no(BAD);
        if (s.at(h).isEmpty()) return no(NO);
        remember();
        return s.call(h);
    }

    int boards(int h, int m) {
        if (noShip(h) || noMan(m)) return no(BAD);
        if (s.men.get(m)[2] != NONE) return no(NO);
        remember();
        s.men.get(m)[2] = h;
        return s.at(h).size();
    }

    int undo() {
        if (s.past.isEmpty()) return no(NO);
        State old = s.past.pop();
        for (int i = 0; i < old.ships.size(); i++) s.ships.set(i, old.ships.get(i).clone());
        for (int i = 0; i < old.men.size(); i++) s.men.set(i, old.men.get(i).clone());
        return s.at(NONE).size();
    }

    int of(int m, int what) {
        if (noMan(m) || out(what, 0, 3)) return no(BAD);
        if (what < 3) return s.men.get(m)[what];
        return s.men.get(m)[2] == NONE ? NONE : s.like(m);
    }

    int about(int h, int what) {
        if (noShip(h) || out(what, 0, 3)) return no(BAD);
        if (what < 2) return s.ships.get(h)[what];
        if (what == 3) return s.skills(h);
        return s.at(h).stream().mapToInt(m -> 1 << m).sum();
    }

    int left(int h) {
        return noShip(h) ? no(BAD) : s.least(h);
    }

    int needs(int h, int d) {
        if (noShip(h) || out(d, 1, 30)) return no(BAD);
        return need(s.ships.get(h)[0], d, s.at(h).size());
    }

    int far(int h) {
        if (noShip(h)) return no(BAD);
        int far = 0;
        for (int d = 1; d <= 30; d++) {
            if (s.can(h, d)) far = d;
        }
        return far;
    }

    int behind(int h, int k) {
        if (noShip(h) || out(k, 1, 8)) return no(BAD);
        State t = s.copy();
        for (int i = 1; i < k; i++) t.call(h);
        return t.call(h);
    }

    int lasts(int h, int d) {
        if (noShip(h) || out(d, 1, 30)) return no(BAD);
        State t = s.copy();
        for (int k = 0; ; k++) {
            if (!t.can(h, d)) return k;
            t.call(h);
        }
    }

    int few(int x, int h) {
        if (out(x, 1, 72) || h != NONE && noShip(h)) {
            no(BAD);
            return -10;
        }
        int best = -6;
        int[] way = null;
        for (int code = 0; code < 729; code++) {
            int[] k = {code / 81, code / 9 % 9, code % 9};
            int sum = k[0] + k[1] + k[2];
            if ((way == null || sum < best) && reaches(x, k)) {
                best = sum;
                way = k;
            }
        }
        return way == null || h == NONE ? best : way[h];
    }

    private boolean reaches(int x, int[] k) {
        State t = s.copy();
        for (int h = 0; h < 3; h++) {
            for (int i = 0; i < k[h]; i++) {
                if (h >= t.ships.size() || t.call(h) == NONE) return false;
            }
        }
        return t.skills(NONE) >= x;
    }

    int crew(int d, int m) {
        if (out(d, 1, 30) || m != NONE && noMan(m)) {
            no(BAD);
            return -10;
        }
        List<Integer> ashore = s.at(NONE);
        int[] places = new int[8];
        Arrays.fill(places, NONE);
        int[] bestPlaces = null;
        int best = -1;
        int choices = s.ships.size() + 1;
        int ways = (int) Math.pow(choices, ashore.size());
        for (int way = 0; way < ways; way++) {
            int rest = way;
            for (int i = ashore.size() - 1; i >= 0; i--) {
                places[ashore.get(i)] = rest % choices - 1;
                rest /= choices;
            }
            int sailing = sailing(d, ashore, places);
            if (sailing > best) {
                best = sailing;
                bestPlaces = places.clone();
            }
        }
        return m == NONE ? best : bestPlaces[m];
    }

    private int sailing(int d, List<Integer> ashore, int[] places) {
        int[] n = new int[3];
        int[] sum = new int[3];
        for (int m = 0; m < s.men.size(); m++) {
            int place = s.men.get(m)[2] == NONE ? places[m] : s.men.get(m)[2];
            if (place != NONE) {
                n[place]++;
                sum[place] += s.men.get(m)[1];
            }
        }
        int sailing = 0;
        for (int h = 0; h < s.ships.size(); h++) {
            if (n[h] > 0 && sum[h] >= need(s.ships.get(h)[0], d, n[h])) sailing++;
        }
        return sailing;
    }

    private int add(List<int[]> rows, int most, int... row) {
        if (rows.size() == most) return no(FULL);
        rows.add(row);
        return rows.size();
    }

    int seen(int m, int c, int l, int left) {
        if (noMan(m) || out(c, 0, 99) || out(l, 0, 30) || out(left, 0, 1)) return no(BAD);
        return add(s.seen, 5, m, c, l, left);
    }

    private List<Integer> fitting(int least, int most, IntPredicate fits) {
        List<Integer> found = new ArrayList<>();
        for (int i = least; i <= most; i++) {
            if (fits.test(i)) found.add(i);
        }
        return found;
    }

    private List<Integer> skillsOf(int m) {
        int kind = s.men.get(m)[0];
        return fitting(1, 9, skill -> s.seen.stream().filter(r -> r[0] == m)
            .allMatch(r -> (liked(kind, skill, r[1]) <= r[2] ? 1 : 0) == r[3]));
    }

    int skilled(int m, int what) {
        if (noMan(m) || out(what, 0, 2)) return no(BAD);
        List<Integer> fit = skillsOf(m);
        if (what == 0) return fit.size();
        if (fit.isEmpty()) return NONE;
        return fit.get(what == 1 ? 0 : fit.size() - 1);
    }

    int tell(int m) {
        if (noMan(m)) return no(BAD);
        List<Integer> fit = skillsOf(m);
        int best = NONE;
        int least = 99;
        for (int code = 0; code < 600; code++) {
            int c = code / 100;
            int l = code % 100;
            long yes = fit.stream().filter(skill -> liked(s.men.get(m)[0], skill, c) <= l).count();
            int greater = (int) Math.max(yes, fit.size() - yes);
            if (l <= 30 && greater < least) {
                least = greater;
                best = code;
            }
        }
        return fit.isEmpty() ? NONE : best;
    }

    int note(int h, int d, int n, int x) {
        if (noShip(h) || out(d, 1, 30) || out(n, 0, 8) || out(x, 0, 99)) return no(BAD);
        return add(s.notes, 6, h, d, n, x);
    }

    int mark(int m, int skill, int c, int x) {
        if (noMan(m) || out(skill, 1, 9) || out(c, 0, 99) || out(x, 0, 40)) return no(BAD);
        return add(s.marks, 6, m, skill, c, x);
    }

    int forget(int what) {
        if (out(what, 0, 2)) return no(BAD);
        List<int[]> rows = what == 0 ? s.seen : what == 1 ? s.notes : s.marks;
        int had = rows.size();
        rows.clear();
        return had;
    }

    private static int bits(List<Integer> numbers) {
        return numbers.stream().mapToInt(i -> 1 << i).sum();
    }

    private List<Integer> shipKinds(int h) {
        return fitting(0, 5, kind -> s.notes.stream().filter(r -> r[0] == h)
            .allMatch(r -> need(kind, r[1], r[2]) == r[3]));
    }

    private List<Integer> manKinds(int m) {
        return fitting(0, 5, kind -> s.marks.stream().filter(r -> r[0] == m)
            .allMatch(r -> liked(kind, r[1], r[2]) == r[3]));
    }

    private static int most(int[] answers) {
        TreeMap<Integer, Integer> groups = new TreeMap<>();
        for (int a : answers) groups.merge(a, 1, Integer::sum);
        return groups.values().stream().mapToInt(i -> i).max().orElse(0);
    }

    int is(int h) {
        return noShip(h) ? no(BAD) : bits(shipKinds(h));
    }

    int look(int h) {
        if (noShip(h)) return no(BAD);
        List<Integer> fit = shipKinds(h);
        int best = NONE;
        int least = 99;
        for (int code = 10; code <= 308; code++) {
            int d = code / 10;
            int n = code % 10;
            int group = most(fit.stream().mapToInt(kind -> need(kind, d, n)).toArray());
            if (n <= 8 && group < least) {
                least = group;
                best = code;
            }
        }
        return fit.isEmpty() ? NONE : best;
    }

    int kinds(int m) {
        return noMan(m) ? no(BAD) : bits(manKinds(m));
    }

    int ask(int m) {
        if (noMan(m)) return no(BAD);
        List<Integer> fit = manKinds(m);
        int best = NONE;
        int least = 99;
        for (int code = 0; code <= 9; code++) {
            int c = code;
            int group = most(fit.stream().mapToInt(kind -> liked(kind, s.men.get(m)[1], c)).toArray());
            if (group < least) {
                least = group;
                best = c;
            }
        }
        return fit.isEmpty() ? NONE : best;
    }

    int water(int a, int b, int d) {
        if (noShip(a) || noShip(b) || a == b || out(d, 1, 30)) return no(BAD);
        int bits = 0;
        for (int pair = 0; pair < 4; pair++) {
            int mine = pay(a, d, pair & 1, pair >> 1);
            int theirs = pay(b, d, pair >> 1, pair & 1);
            if (pay(a, d, 1 - (pair & 1), pair >> 1) <= mine && pay(b, d, 1 - (pair >> 1), pair & 1) <= theirs) {
                bits |= 1 << pair;
            }
        }
        return bits;
    }

    private int pay(int h, int d, int calls, int other) {
        State t = s.copy();
        if (calls == 0) return t.can(h, d) ? 2 : -2;
        t.call(h);
        return (t.can(h, d) ? 6 : -4) - 3 * other;
    }

    int lots(int m, int n) {
        if (noMan(m) || out(n, 0, 8)) return no(BAD);
        if (s.men.get(m)[2] == NONE) return no(NO);
        int others = s.at(s.men.get(m)[2]).size() - 1;
        long stays = 1;
        long all = 1;
        for (int i = 0; i < n; i++) {
            stays *= Math.max(others - i, 0);
            all *= Math.max(others + 1 - i, 1);
        }
        long over = all - stays;
        long g = java.math.BigInteger.valueOf(over).gcd(java.math.BigInteger.valueOf(all)).longValue();
        above = over / g;
        below = all / g;
        return 1;
    }

    int centuries(int seed, int n) {
        if (out(seed, 0, 999999) || out(n, 0, 60)) return no(BAD);
        State t = s.copy();
        java.math.BigInteger x = java.math.BigInteger.valueOf(seed);
        for (int i = 0; i < n; i++) {
            x = x.multiply(java.math.BigInteger.valueOf(1103515245)).add(java.math.BigInteger.valueOf(12345))
                .mod(java.math.BigInteger.valueOf(2147483648L));
            int h = (int) (x.longValue() / 65536 % 3);
            int y = (int) (x.longValue() / 1048576 % 16);
            if (h < t.ships.size() && y >= 8) t.call(h);
            if (h < t.ships.size() && y < t.men.size() && y < 8 && t.men.get(y)[2] == NONE) t.men.get(y)[2] = h;
        }
        return t.skills(NONE);
    }

    long part(int what) {
        return what == 0 ? above : what == 1 ? below : no(BAD);
    }

    int image(int i) {
        if (out(i, 0, 1)) return no(BAD);
        images[i] = s.copy();
        return 1;
    }

    int from(int i) {
        if (out(i, 0, 1)) return no(BAD);
        if (images[i] == null) return no(NO);
        s = images[i].copy();
        return 1;
    }

    int status(int what) {
        if (out(what, 0, 2)) {
            no(BAD);
            return -1;
        }
        return refused[what];
    }

    int count(int what) {
        if (out(what, 0, 9)) return no(BAD);
        int[] all = {s.men.size(), s.ships.size(), s.at(NONE).size(), s.skills(NONE),
            s.ships.stream().mapToInt(r -> r[1]).sum(), s.seen.size(), s.notes.size(), s.marks.size(),
            s.past.size(), text.length()};
        return all[what];
    }

    long digest() {
        List<Long> values = new ArrayList<>();
        for (int what = 0; what < 10; what++) values.add((long) count(what));
        for (List<int[]> rows : List.of(s.ships, s.men, s.seen, s.notes, s.marks)) {
            for (int[] row : rows) {
                for (int v : row) values.add((long) v);
            }
        }
        values.add(above);
        values.add(below);
        long h = 1721;
        for (long v : values) h = 31 * h + v;
        return h;
    }
}
