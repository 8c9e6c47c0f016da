import java.util.ArrayList;
import java.util.List;
import java.util.Random;
import java.util.regex.Matcher;
import java.util.regex.Pattern;

/**
 * Long runs of calls, drawn from fixed seeds, against a second program that holds and works out everything otherwise:
 * pairs are sorted, orders are read by regular expressions, states are whole copies.
 */
public final class ModelTests {
    private static final int RUNS = 1500;
    private static final int CALLS = 512;
    private static final int INVALID = -1000001;
    private static final int NOT_POSSIBLE = -1000002;
    private static final int LIMIT = -1000003;
    private static final int NOT_FOUND = -1000004;

    private static final class World {
        List<int[]> umbrellas = new ArrayList<>(); // four values, age
        List<int[]> claims = new ArrayList<>(); // four values, age, doubts
        List<int[]> book = new ArrayList<>(); // the latest first: weeks, kind, age, coins
        int[] settings = {1, 4, 2, 8, 1, 6, 5};
        int weeks, found, came, handed, sold, lapsed, coins, dropped;

        World copy() {
            World w = new World();
            for (int[] u : umbrellas) w.umbrellas.add(u.clone());
            for (int[] c : claims) w.claims.add(c.clone());
            w.book.addAll(book);
            w.settings = settings.clone();
            w.weeks = weeks; w.found = found; w.came = came; w.handed = handed;
            w.sold = sold; w.lapsed = lapsed; w.coins = coins; w.dropped = dropped;
            return w;
        }

        int odd(int u, int d) {
            int n = 13;
            for (int[] o : umbrellas) if (o[d] == umbrellas.get(u)[d]) n--;
            return n;
        }

        int misses(int u, int c) {
            int n = 0;
            for (int d = 0; d < 4; d++) if (claims.get(c)[d] >= 0 && claims.get(c)[d] != umbrellas.get(u)[d]) n++;
            return n;
        }

        int points(int u, int c) {
            int p = -settings[1] * misses(u, c) - settings[2] * claims.get(c)[5];
            for (int d = 0; d < 4; d++) if (claims.get(c)[d] == umbrellas.get(u)[d]) p += odd(u, d);
            return p;
        }

        /** All pairs that suit, the one that is ahead of all others first: umbrella, claim, points. */
        List<int[]> suiting() {
            List<int[]> all = new ArrayList<>();
            for (int u = 0; u < umbrellas.size(); u++)
                for (int c = 0; c < claims.size(); c++)
                    if (misses(u, c) <= settings[0] && points(u, c) >= settings[3]) all.add(new int[] {u, c, points(u, c)});
            all.sort((a, b) -> a[2] != b[2] ? b[2] - a[2] : a[0] != b[0] ? a[0] - b[0] : a[1] - b[1]);
            return all;
        }

        List<int[]> matched() {
            List<int[]> all = new ArrayList<>();
            for (int[] p : suiting()) {
                boolean free = true;
                for (int[] m : all) free &= m[0] != p[0] && m[1] != p[1];
                if (free) all.add(p);
            }
            return all;
        }

        void enter(int kind, int age, int paid) {
            book.add(0, new int[] {weeks, kind, age, paid});
            coins += paid;
            while (book.size() > 10) book.remove(10);
        }

        int find(int[] v) {
            for (int x : v) if (x < 0 || x > 9) return INVALID;
            if (umbrellas.size() == 12) return LIMIT;
            found++;
            umbrellas.add(new int[] {v[0], v[1], v[2], v[3], 0});
            return umbrellas.size() - 1;
        }

        int claim(int[] v) {
            boolean told = false;
            for (int x : v) if (x < -1 || x > 9) return INVALID;
            for (int x : v) told |= x != -1;
            if (!told) return NOT_POSSIBLE;
            if (claims.size() == 12) return LIMIT;
            came++;
            claims.add(new int[] {v[0], v[1], v[2], v[3], 0, 0});
            return claims.size() - 1;
        }

        boolean hasUmbrella(int u) { return u >= 0 && u < umbrellas.size(); }

        boolean hasClaim(int c) { return c >= 0 && c < claims.size(); }

        int tell(int c, int d, int v) {
            if (!hasClaim(c) || d < 0 || d > 3 || v < 0 || v > 9) return INVALID;
            int[] it = claims.get(c);
            if (it[d] != -1 && it[d] != v) it[5]++;
            it[d] = v;
            return it[5];
        }

        int drop(int c) {
            if (!hasClaim(c)) return INVALID;
            claims.remove(c);
            dropped++;
            return claims.size();
        }

        int weeks(int many, boolean limited) {
            if (many < 1 || many > 20) return INVALID;
            if (limited && weeks + many > 999) return LIMIT;
            int before = sold;
            for (int i = 0; i < many; i++) {
                weeks++;
                List<int[]> young = new ArrayList<>();
                for (int[] u : umbrellas) {
                    u[4]++;
                    if (u[4] >= settings[5]) { enter(1, u[4], settings[6]); sold++; } else young.add(u);
                }
                umbrellas = young;
                List<int[]> fresh = new ArrayList<>();
                for (int[] c : claims) {
                    c[4]++;
                    if (c[4] >= settings[5]) { enter(2, c[4], 0); lapsed++; } else fresh.add(c);
                }
                claims = fresh;
            }
            return sold - before;
        }

        int hand() {
            List<int[]> pairs = matched();
            pairs.sort((a, b) -> a[0] - b[0]);
            List<int[]> us = new ArrayList<>(umbrellas);
            List<int[]> cs = new ArrayList<>(claims);
            for (int[] p : pairs) {
                int[] u = us.get(p[0]);
                enter(0, u[4], u[4] * settings[4]);
                handed++;
                umbrellas.removeIf(o -> o == u);
                int[] c = cs.get(p[1]);
                claims.removeIf(o -> o == c);
            }
            return pairs.size();
        }

        int set(int what, int v) {
            int[] least = {0, 0, 0, 1, 0, 1, 1};
            int[] most = {3, 20, 20, 48, 9, 20, 20};
            if (what < 0 || what > 6 || v < least[what] || v > most[what]) return INVALID;
            int was = settings[what];
            settings[what] = v;
            return was;
        }
    }

    private static final Pattern ORDER = Pattern.compile(
        "find \\d{1,2},\\d{1,2},\\d{1,2},\\d{1,2};|claim (?:\\d{1,2}|-),(?:\\d{1,2}|-),(?:\\d{1,2}|-),(?:\\d{1,2}|-);"
        + "|tell \\d{1,2},\\d{1,2},\\d{1,2};|week \\d{1,2};|hand;");

    private World world = new World();
    private final List<World> history = new ArrayList<>();
    private String text = "";

    private int keep(World before, int answer) {
        if (answer >= 0) {
            history.add(before);
            if (history.size() == 5) history.remove(0);
        }
        return answer;
    }

    /** Place, reason, cause, orders done; place is -1 if there is no fault. */
    private int[] tryText(World w) {
        int place = 0;
        int done = 0;
        while (place < text.length()) {
            String rest = text.substring(place);
            Matcher m = ORDER.matcher(rest);
            if (!m.lookingAt()) {
                int off = 0;
                while (off < rest.length() && couldGoOn(rest.substring(0, off + 1))) off++;
                return new int[] {place, 1, off, done};
            }
            String order = rest.substring(0, m.end());
            int answer = doOrder(w, order);
            if (answer < 0) return new int[] {place, 2, answer, done};
            done++;
            place += order.length();
        }
        return new int[] {-1, -1, -1, done};
    }

    private static boolean couldGoOn(String start) {
        Matcher m = ORDER.matcher(start);
        return m.matches() || m.hitEnd();
    }

    private static int doOrder(World w, String order) {
        if (order.equals("hand;")) return w.hand();
        String[] parts = order.substring(order.indexOf(' ') + 1, order.length() - 1).split(",");
        int[] v = new int[parts.length];
        for (int i = 0; i < v.length; i++) v[i] = parts[i].equals("-") ? -1 : Integer.parseInt(parts[i]);
        switch (order.charAt(0)) {
            case 'f': return w.find(v);
            case 'c': return w.claim(v);
            case 't': return w.tell(v[0], v[1], v[2]);
            default: return w.weeks(v[0], true);
        }
    }

    private int umbrella(int u, int what) {
        if (!world.hasUmbrella(u) || what < 0 || what > 8) return INVALID;
        if (what <= 4) return world.umbrellas.get(u)[what];
        int sum = 0;
        if (what == 8) {
            for (int d = 0; d < 4; d++) sum += world.odd(u, d);
            return sum;
        }
        if (what == 7) {
            for (int[] p : world.suiting()) if (p[0] == u) sum++;
            return sum;
        }
        for (int[] p : world.matched()) if (p[0] == u) return what == 5 ? p[1] : p[2];
        return NOT_FOUND;
    }

    private int claimOf(int c, int what) {
        if (!world.hasClaim(c) || what < 0 || what > 7) return INVALID;
        int[] it = world.claims.get(c);
        if (what < 4) return it[what] == -1 ? NOT_FOUND : it[what];
        if (what == 4) return it[4];
        if (what == 7) return it[5];
        if (what == 6) {
            int n = 0;
            for (int[] p : world.suiting()) if (p[1] == c) n++;
            return n;
        }
        return umbrellaOf(world, c);
    }

    private static int umbrellaOf(World w, int c) {
        for (int[] p : w.matched()) if (p[1] == c) return p[0];
        return NOT_FOUND;
    }

    private int why(int u, int c) {
        if (!world.hasUmbrella(u) || !world.hasClaim(c)) return INVALID;
        for (int[] p : world.matched()) if (p[0] == u && p[1] == c) return 0;
        if (world.misses(u, c) > world.settings[0]) return 1;
        if (world.points(u, c) < world.settings[3]) return 2;
        List<int[]> order = world.suiting();
        for (int[] p : world.matched()) if (p[0] == u && rank(order, p[0], p[1]) < rank(order, u, c)) return 3;
        for (int[] p : world.matched()) if (p[1] == c) return 4;
        throw new IllegalStateException("no reason");
    }

    private static int rank(List<int[]> order, int u, int c) {
        for (int i = 0; i < order.size(); i++) if (order.get(i)[0] == u && order.get(i)[1] == c) return i;
        throw new IllegalStateException("no such pair");
    }

    private int oddest() {
        int best = NOT_FOUND;
        int most = -1;
        for (int u = world.umbrellas.size() - 1; u >= 0; u--) {
            if (umbrella(u, 8) >= most) {
                most = umbrella(u, 8);
                best = u;
            }
        }
        return best;
    }

    private int ifWeeks(int many, int what) {
        if (many < 1 || many > 20 || what < 0 || what > 2) return INVALID;
        World w = world.copy();
        w.weeks(many, false);
        return what == 0 ? w.sold - world.sold : what == 1 ? w.lapsed - world.lapsed : w.matched().size();
    }

    private int mean() {
        List<int[]> m = world.matched();
        if (m.isEmpty()) return NOT_FOUND;
        int sum = 0;
        for (int[] p : m) sum += p[2];
        return Float.floatToIntBits((float) sum / (float) m.size());
    }

    private int count(int what) {
        World w = world;
        if (what >= 20 && what <= 26) return w.settings[what - 20];
        if (what < 0 || what > 14) return INVALID;
        int pairs = w.matched().size();
        return new int[] {w.weeks, w.umbrellas.size(), w.claims.size(), pairs, pairs, w.found, w.came, w.handed, w.sold,
            w.lapsed, w.coins, w.dropped, w.book.size(), history.size(), text.length()}[what];
    }

    private int book(int ago, int what) {
        if (ago < 0 || what < 0 || what > 3) return INVALID;
        return ago >= world.book.size() ? NOT_FOUND : world.book.get(ago)[what];
    }

    private int points(int u, int c) {
        return world.hasUmbrella(u) && world.hasClaim(c) ? 1000 + world.points(u, c) : INVALID;
    }

    private int having(int d, int v) {
        if (d < 0 || d > 3 || v < 0 || v > 9) return INVALID;
        int n = 0;
        for (int[] u : world.umbrellas) if (u[d] == v) n++;
        return n;
    }

    private int ifTold(int c, int d, int v) {
        World w = world.copy();
        int answer = w.tell(c, d, v);
        return answer < 0 ? answer : umbrellaOf(w, c);
    }

    private int undo() {
        if (history.isEmpty()) return NOT_POSSIBLE;
        world = history.remove(history.size() - 1);
        return history.size();
    }

    private int type(int sign) {
        if (sign < 32 || sign > 126) return INVALID;
        if (text.length() == 60) return LIMIT;
        text = text + (char) sign;
        return text.length();
    }

    private int clearText() {
        int was = text.length();
        text = "";
        return was;
    }

    private int fault(int what) {
        if (what < 0 || what > 2) return INVALID;
        int[] f = tryText(world.copy());
        return f[0] == -1 ? NOT_FOUND : f[what];
    }

    private int play() {
        World then = world.copy();
        int[] f = tryText(then);
        if (f[0] != -1) return NOT_POSSIBLE;
        World before = world;
        world = then;
        return keep(before, f[3]);
    }

    // ---- the runs

    private final Random random;
    private final int values;
    private final OddUmbrellas real = new OddUmbrellas();
    private final StringBuilder log = new StringBuilder();
    private String waiting = "";

    private ModelTests(int seed) {
        random = new Random(seed);
        values = new int[] {1, 2, 3, 5, 10}[seed % 5];
    }

    private int from(int least, int most) {
        if (random.nextInt(40) == 0) {
            int[] odd = {least - 1, most + 1, Integer.MIN_VALUE, Integer.MAX_VALUE, -1, 0, 65536, -1000001};
            return odd[random.nextInt(odd.length)];
        }
        return least + random.nextInt(Math.max(1, most - least + 1));
    }

    private int value() { return from(0, values - 1); }

    private int valueOrNone() { return random.nextBoolean() ? -1 : value(); }

    private int anUmbrella() { return from(0, world.umbrellas.size() - 1); }

    private int aClaim() { return from(0, world.claims.size() - 1); }

    private String typedValue() {
        int v = random.nextInt(60) == 0 ? 10 : random.nextInt(values);
        return random.nextInt(5) == 0 && v < 10 ? "0" + v : "" + v;
    }

    private String typedValueOrDash() { return random.nextBoolean() ? "-" : typedValue(); }

    private String anOrder() {
        switch (random.nextInt(5)) {
            case 0: return "find " + typedValue() + "," + typedValue() + "," + typedValue() + "," + typedValue() + ";";
            case 1: return "claim " + typedValueOrDash() + "," + typedValueOrDash() + "," + typedValueOrDash() + "," + typedValueOrDash() + ";";
            case 2: return "tell " + random.nextInt(Math.max(1, world.claims.size() + 1)) + "," + random.nextInt(4) + "," + typedValue() + ";";
            case 3: return "week " + (random.nextInt(12) == 0 ? random.nextInt(120) : 1 + random.nextInt(2)) + ";";
            default: return "hand;";
        }
    }

    private String aText() {
        StringBuilder all = new StringBuilder();
        int orders = random.nextInt(6);
        for (int i = 0; i < orders; i++) all.append(anOrder());
        if (random.nextInt(4) == 0 && all.length() > 0) {
            String signs = "findclamtelwkh 0123456789,;-x";
            char sign = signs.charAt(random.nextInt(signs.length()));
            int place = random.nextInt(all.length());
            switch (random.nextInt(4)) {
                case 0: all.setCharAt(place, sign); break;
                case 1: all.insert(place, sign); break;
                case 2: all.deleteCharAt(place); break;
                default: all.setLength(place);
            }
        }
        return all.toString();
    }

    private boolean same(String call, int got, int want) {
        log.append(call).append(" -> ").append(got).append('\n');
        if (got == want) return true;
        System.out.println(log);
        System.out.println("the last call answered " + got + ", due is " + want);
        return false;
    }

    private boolean change() {
        World before = world.copy();
        int a = value(), b = value(), c = value(), d = value();
        switch (random.nextInt(13)) {
            case 0: case 1: case 2:
                return same("find " + a + "," + b + "," + c + "," + d, real.find(a, b, c, d), keep(before, world.find(new int[] {a, b, c, d})));
            case 3: case 4: case 5:
                a = valueOrNone(); b = valueOrNone(); c = valueOrNone(); d = valueOrNone();
                return same("claim " + a + "," + b + "," + c + "," + d, real.claim(a, b, c, d), keep(before, world.claim(new int[] {a, b, c, d})));
            case 6: case 7:
                a = aClaim(); b = from(0, 3);
                return same("tell " + a + "," + b + "," + c, real.tell(a, b, c), keep(before, world.tell(a, b, c)));
            case 8:
                a = aClaim();
                return same("drop " + a, real.drop(a), keep(before, world.drop(a)));
            case 9:
                a = random.nextInt(4) == 0 ? from(1, 20) : from(1, 2);
                return same("weeks " + a, real.weeks(a), keep(before, world.weeks(a, true)));
            case 10:
                return same("hand", real.hand(), keep(before, world.hand()));
            case 11:
                a = from(0, 6);
                b = new int[] {from(0, 3), from(0, 20), from(0, 5), random.nextBoolean() ? from(1, 48) : from(1, 12),
                    from(0, 9), random.nextBoolean() ? from(4, 20) : from(1, 20), from(1, 20)}[a >= 0 && a < 7 ? a : 0];
                return same("set " + a + "," + b, real.set(a, b), keep(before, world.set(a, b)));
            default:
                return same("undo", real.undo(), undo());
        }
    }

    private boolean question() {
        int u = anUmbrella(), c = aClaim(), d = from(0, 3), v = value();
        switch (random.nextInt(13)) {
            case 0: d = from(0, 8); return same("umbrella " + u + "," + d, real.umbrella(u, d), umbrella(u, d));
            case 1: d = from(0, 7); return same("claimOf " + c + "," + d, real.claimOf(c, d), claimOf(c, d));
            case 2: return same("points " + u + "," + c, real.points(u, c), points(u, c));
            case 3: return same("having " + d + "," + v, real.having(d, v), having(d, v));
            case 4: v = from(0, 10); return same("book " + v + "," + d, real.book(v, d), book(v, d));
            case 5: case 6: return same("why " + u + "," + c, real.why(u, c), why(u, c));
            case 7: return same("ifTold " + c + "," + d + "," + v, real.ifTold(c, d, v), ifTold(c, d, v));
            case 8: return same("oddest", real.oddest(), oddest());
            case 9: u = from(1, 20); v = from(0, 2); return same("ifWeeks " + u + "," + v, real.ifWeeks(u, v), ifWeeks(u, v));
            case 10: return same("mean", real.mean(), mean());
            case 11: v = from(3, 4); return same("count " + v, real.count(v), count(v));
            default: v = from(0, 26); return same("count " + v, real.count(v), count(v));
        }
    }

    /** Types on at a text that waits, a sign a call, or asks about it. */
    private boolean texts() {
        if (!waiting.isEmpty()) {
            int sign = random.nextInt(200) == 0 ? from(32, 126) : waiting.charAt(0);
            waiting = waiting.substring(1);
            return same("type " + sign, real.type(sign), type(sign));
        }
        switch (random.nextInt(4)) {
            case 0:
                waiting = aText();
                return same("clearText", real.clearText(), clearText());
            case 1:
                return same("play " + text, real.play(), play());
            default:
                int what = from(0, 2);
                return same("fault " + what + " of " + text, real.fault(what), fault(what));
        }
    }

    private boolean run() {
        for (int call = 0; call < CALLS; call++) {
            int kind = random.nextInt(10);
            boolean good = kind < 3 ? change() : kind < 6 || (kind < 8 && waiting.isEmpty()) ? question() : texts();
            if (!good) return false;
        }
        return true;
    }

    public static void main(String[] args) {
        for (int seed = 0; seed < RUNS; seed++) {
            if (!new ModelTests(seed).run()) {
                System.out.println("ModelTests: seed " + seed + " went wrong");
                System.exit(1);
            }
        }
        System.out.println("ModelTests: all answers of " + RUNS + " runs are as due");
    }
}
