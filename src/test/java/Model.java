import java.math.BigInteger;
import java.util.ArrayDeque;
import java.util.ArrayList;
import java.util.Comparator;
import java.util.HashMap;
import java.util.List;
import java.util.Map;
import java.util.TreeSet;
import java.util.function.Consumer;
import java.util.function.IntPredicate;
import java.util.function.Predicate;
import java.util.function.ToIntFunction;
import java.util.regex.Matcher;
import java.util.regex.Pattern;
import java.util.stream.IntStream;

/** The document once more, read anew and told with the whole Java library: slow, and made like the class in nothing. */
final class Model {
    record One(char kind, int figure, int home, int tile, int pinned) {
        One at(int t) { return new One(kind, figure, home, t, pinned); }
        One pinned(int p) { return new One(kind, figure, home, tile, p); }
        One as(char k, int f) { return new One(k, f, home, tile, pinned); }
    }

    static final class World {
        TreeSet<Integer> cracks = new TreeSet<>();
        int ship = 23;
        int night = 0;
        List<One> ones = new ArrayList<>();

        World copy() {
            World w = new World();
            w.cracks = new TreeSet<>(cracks);
            w.ship = ship;
            w.night = night;
            w.ones = new ArrayList<>(ones);
            return w;
        }

        boolean aboard(int i) { return ones.get(i).tile() == ship; }

        void set(int i, One o) { ones.set(i, o); }

        void home(int i, int nights) { set(i, ones.get(i).at(ones.get(i).home()).pinned(nights)); }

        int bits(IntPredicate p) { return IntStream.range(0, ones.size()).filter(p).map(i -> 1 << i).sum(); }

        int many(IntPredicate p) { return (int) IntStream.range(0, ones.size()).filter(p).count(); }

        int crackBits() { return cracks.stream().mapToInt(t -> 1 << t).sum(); }

        /** All answers of a night: where everybody is behind it. */
        World next() {
            World w = copy();
            w.night++;
            for (int i = 0; i < w.ones.size(); i++) {
                One o = w.ones.get(i);
                if (w.aboard(i)) {
                    continue;
                }
                if (o.pinned() > 0) {
                    w.set(i, o.pinned(o.pinned() - 1));
                    continue;
                }
                int to = neighbour(o.tile(), w.way(i));
                if (to < 0 || w.cracks.contains(to) || w.cracks.contains(o.tile())) {
                    continue;
                }
                if (w.ones.stream().filter(x -> x.tile() == to).count() < 3) {
                    w.set(i, o.at(to));
                }
            }
            return w;
        }

        World then(int n) {
            World w = this;
            for (int i = 0; i < n; i++) {
                w = w.next();
            }
            return w;
        }

        int toShip(int tile) {
            int r = ship / 6 - tile / 6;
            int c = ship % 6 - tile % 6;
            return r < 0 ? 0 : r > 0 ? 2 : c > 0 ? 1 : c < 0 ? 3 : -9;
        }

        int way(int i) {
            One o = ones.get(i);
            int skater = neighbour(o.tile(), 1) >= 0 ? 1 : 3;
            int sailor = toShip(o.tile());
            return switch (o.kind()) {
                case 'k' -> skater;
                case 'h' -> neighbour(o.tile(), 2) >= 0 ? 2 : skater;
                case 'f' -> night % (o.figure() + 2) == 0 ? skater : -9;
                case 's' -> sailor;
                case 'w' -> {
                    if (sailor == -9 || night % 2 == 0) {
                        yield sailor;
                    }
                    int back = (sailor + 2) % 4;
                    yield neighbour(o.tile(), back) >= 0 ? back : -9;
                }
                case 'n' -> many(j -> j != i && !aboard(j)) == 0 ? sailor : -9;
                default -> throw new IllegalStateException();
            };
        }
    }

    static int neighbour(int tile, int way) {
        int[] dr = {-1, 0, 1, 0};
        int[] dc = {0, 1, 0, -1};
        if (way < 0) {
            return -1;
        }
        int r = tile / 6 + dr[way];
        int c = tile % 6 + dc[way];
        return r < 0 || r > 3 || c < 0 || c > 5 ? -1 : 6 * r + c;
    }

    static int steps(int a, int b) {
        return Math.abs(a / 6 - b / 6) + Math.abs(a % 6 - b % 6);
    }

    World w = new World();
    World picture = null;
    StringBuilder text = new StringBuilder();
    List<Integer> row = new ArrayList<>();
    Map<Integer, Integer> refused = new HashMap<>();
    static final String KINDS = "khfswn";

    int no(int number) {
        refused.merge(number, 1, Integer::sum);
        return number;
    }

    long noLong(int number) {
        return 4000000000000000000L - no(number);
    }

    boolean nobody(int one) { return one < 0 || one >= w.ones.size(); }

    static boolean noTile(int tile) { return tile < 0 || tile > 23; }

    int letter(int c) {
        if (c < 0) return no(-4);
        if (c > 255 || text.length() == 96) return no(-6);
        text.append((char) c);
        return text.length();
    }

    /** Every beginning of a chimney: whole statements and a beginning of one more. */
    private static final Pattern BEGINNING = Pattern.compile(
        "(l[khfswn][0-9]{3};|a[0-9]{3};|[cspn][0-9]{2};)*"
        + "(l([khfswn][0-9]{0,3})?|a[0-9]{0,3}|[cspn][0-9]{0,2})?");
    private static final Pattern STATEMENT = Pattern.compile("([lacspn])([khfswn]?)([0-9]+);");

    int chimney() {
        String all = text.toString();
        text = new StringBuilder();
        for (int end = 1; end <= all.length(); end++) {
            if (!BEGINNING.matcher(all.substring(0, end)).matches()) {
                return -1000 - (end - 1);
            }
        }
        if (!all.endsWith(";")) {
            return -1000 - all.length();
        }
        World t = w.copy();
        int told = 0;
        Matcher m = STATEMENT.matcher(all);
        while (m.find()) {
            if (!(m.group(1).equals("l") ? tellLittle(t, m) : tell(t, m.group(1).charAt(0), m.group(3)))) {
                return -2000 - m.start();
            }
            if (m.group(1).equals("n")) {
                t = t.then(Integer.parseInt(m.group(3)));
            }
            told++;
        }
        w = t;
        return told;
    }

    private static boolean tellLittle(World t, Matcher m) {
        int home = Integer.parseInt(m.group(3).substring(1));
        if (home > 23 || t.ones.size() == 7) {
            return false;
        }
        t.ones.add(new One(m.group(2).charAt(0), m.group(3).charAt(0) - '0', home, home, 0));
        return true;
    }

    private static boolean tell(World t, char first, String digits) {
        int value = Integer.parseInt(digits);
        switch (first) {
            case 'a': {
                int one = value / 100;
                if (one >= t.ones.size() || value % 100 > 23) return false;
                t.set(one, t.ones.get(one).at(value % 100));
                return true;
            }
            case 'c':
                if (value > 23) return false;
                if (!t.cracks.remove(value)) t.cracks.add(value);
                return true;
            case 's':
                if (value > 23) return false;
                t.ship = value;
                return true;
            case 'p':
                if (value / 10 >= t.ones.size()) return false;
                t.home(value / 10, value % 10);
                return true;
            default:
                return value >= 1 && value <= 60 && t.night + value <= 999;
        }
    }

    int little(int one, int what) {
        if (nobody(one)) return no(-1);
        if (what < 0 || what > 6) return no(-2);
        One o = w.ones.get(one);
        World soon = w.copy();
        soon.night++;
        int[] answers = {KINDS.indexOf(o.kind()), o.figure(), o.home(), o.tile(), o.pinned(), w.aboard(one) ? 1 : 0, soon.way(one)};
        return answers[what];
    }

    int tile(int tile, int what) {
        if (noTile(tile)) return no(-1);
        if (what < 0 || what > 1) return no(-2);
        return what == 0 ? (w.cracks.contains(tile) ? 1 : 0) : w.bits(i -> w.ones.get(i).tile() == tile);
    }

    int comesIn(int kind, int figure, int home) {
        if (kind < 0 || kind > 5) return no(-2);
        if (figure < 0) return no(-4);
        if (figure > 9) return no(-6);
        if (noTile(home)) return no(-1);
        if (w.ones.size() == 7) return no(-6);
        w.ones.add(new One(KINDS.charAt(kind), figure, home, home, 0));
        return w.ones.size() - 1;
    }

    int stands(int one, int tile) {
        if (nobody(one) || noTile(tile)) return no(-1);
        int was = w.ones.get(one).tile();
        w.set(one, w.ones.get(one).at(tile));
        return was;
    }

    int cracks(int tile) {
        if (noTile(tile)) return no(-1);
        if (w.cracks.remove(tile)) return 0;
        w.cracks.add(tile);
        return 1;
    }

    int ship(int tile) {
        if (noTile(tile)) return no(-1);
        int was = w.ship;
        w.ship = tile;
        return was;
    }

    int pins(int one, int nights) {
        if (nobody(one)) return no(-1);
        if (nights < 0) return no(-4);
        if (nights > 9) return no(-6);
        int was = w.ones.get(one).tile();
        w.home(one, nights);
        return was;
    }

    int turn(int one, int kind, int figure) {
        if (nobody(one)) return no(-1);
        if (kind < 0 || kind > 5) return no(-2);
        if (figure < 0) return no(-4);
        if (figure > 9) return no(-6);
        One o = w.ones.get(one);
        w.set(one, o.as(KINDS.charAt(kind), figure));
        return 10 * KINDS.indexOf(o.kind()) + o.figure();
    }

    int nights(int n) {
        if (n < 1) return no(-4);
        if (n > 60 || w.night + n > 999) return no(-6);
        w = w.then(n);
        return w.many(w::aboard);
    }

    int oneThen(int one, int n, int what) {
        if (nobody(one)) return no(-1);
        if (n < 0) return no(-4);
        if (n > 60) return no(-6);
        if (what < 0 || what > 1) return no(-2);
        One o = w.then(n).ones.get(one);
        return what == 0 ? o.tile() : o.pinned();
    }

    int aboard(int n) {
        if (n < 0) return no(-4);
        if (n > 60) return no(-6);
        World t = w.then(n);
        return t.bits(t::aboard);
    }

    private static int first(World from, Predicate<World> so) {
        World t = from;
        for (int n = 0; n <= 60; n++, t = t.next()) {
            if (so.test(t)) {
                return n;
            }
        }
        return -9;
    }

    int comes(int one, int tile) {
        if (nobody(one) || noTile(tile)) return no(-1);
        return first(w, t -> t.ones.get(one).tile() == tile);
    }

    int sails(int one) {
        if (one == -1) {
            int n = first(w, t -> t.bits(t::aboard) != 0);
            return n < 0 ? -9 : Integer.numberOfTrailingZeros(aboard(n));
        }
        if (one == -2) {
            return first(w, t -> t.many(i -> !t.aboard(i)) == 0);
        }
        if (nobody(one)) return no(-1);
        return first(w, t -> t.aboard(one));
    }

    int meets(int one, int other) {
        if (nobody(one) || nobody(other) || one == other) return no(-1);
        return first(w, t -> t.ones.get(one).tile() == t.ones.get(other).tile());
    }

    int still() {
        for (int n = 0; n <= 60; n++) {
            World from = w.then(n);
            boolean quiet = true;
            World before = from;
            for (int i = 1; i <= 12 && quiet; i++) {
                World behind = before.next();
                for (int one = 0; one < w.ones.size(); one++) {
                    quiet &= behind.ones.get(one).tile() == before.ones.get(one).tile();
                }
                before = behind;
            }
            if (quiet) {
                return n;
            }
        }
        return -9;
    }

    static int road(World w, int from, int to) {
        if (from == to) return 0;
        Map<Integer, Integer> seen = new HashMap<>(Map.of(from, 0));
        ArrayDeque<Integer> queue = new ArrayDeque<>(List.of(from));
        while (!queue.isEmpty()) {
            int t = queue.remove();
            for (int way = 0; way < 4; way++) {
                int next = neighbour(t, way);
                if (next >= 0 && !w.cracks.contains(next) && seen.putIfAbsent(next, seen.get(t) + 1) == null) {
                    queue.add(next);
                }
            }
        }
        return seen.getOrDefault(to, -9);
    }

    int far(int tile, int other) {
        if (noTile(tile) || noTile(other)) return no(-1);
        return road(w, tile, other);
    }

    int cutOff() {
        return w.bits(i -> road(w, w.ones.get(i).tile(), w.ship) == -9);
    }

    private int aboardBehind(int n, Consumer<World> change) {
        World t = w.copy();
        change.accept(t);
        World late = t.then(n);
        return late.many(late::aboard);
    }

    private static int leastBy(List<Integer> from, ToIntFunction<Integer> worth, int below) {
        return from.stream().filter(x -> worth.applyAsInt(x) < below)
            .min(Comparator.<Integer>comparingInt(worth).thenComparing(Comparator.naturalOrder())).orElse(-9);
    }

    int shipBest(int n, int what) {
        if (n < 0) return no(-4);
        if (n > 20) return no(-6);
        if (what < 0 || what > 1) return no(-2);
        ToIntFunction<Integer> many = t -> aboardBehind(n, x -> x.ship = t);
        int best = leastBy(IntStream.range(0, 24).boxed().toList(), t -> -many.applyAsInt(t), 1);
        return what == 0 ? best : many.applyAsInt(best);
    }

    int mend(int n, int what) {
        if (n < 0) return no(-4);
        if (n > 20) return no(-6);
        if (what < 0 || what > 1) return no(-2);
        int asItIs = aboardBehind(n, x -> { });
        List<Integer> cracked = IntStream.range(0, 24).filter(w.cracks::contains).boxed().toList();
        List<Integer> whole = IntStream.range(0, 24).filter(t -> !w.cracks.contains(t)).boxed().toList();
        return what == 0
            ? leastBy(cracked, t -> -aboardBehind(n, x -> x.cracks.remove(t)), -asItIs)
            : leastBy(whole, t -> aboardBehind(n, x -> x.cracks.add(t)), asItIs);
    }

    int pin(int n) {
        if (n < 0) return no(-4);
        if (n > 20) return no(-6);
        List<Integer> all = IntStream.range(0, w.ones.size()).boxed().toList();
        return leastBy(all, i -> aboardBehind(n, x -> x.home(i, 9)), aboardBehind(n, x -> { }));
    }

    int fewest(int n) {
        if (n < 0) return no(-4);
        if (n > 9) return no(-6);
        List<Integer> sets = IntStream.range(0, 1 << w.ones.size()).boxed()
            .sorted(Comparator.<Integer>comparingInt(Integer::bitCount).thenComparing(Comparator.naturalOrder())).toList();
        for (int set : sets) {
            World t = w.copy();
            for (int i = 0; i < w.ones.size(); i++) {
                if ((set & 1 << i) != 0) {
                    t.home(i, 9);
                }
            }
            boolean empty = true;
            for (int i = 0; i <= n; i++) {
                World late = t.then(i);
                empty &= late.many(late::aboard) == 0;
            }
            if (empty) {
                return set;
            }
        }
        return -9;
    }

    int bestKind(int one, int what) {
        if (nobody(one)) return no(-1);
        if (what < 0 || what > 1) return no(-2);
        int best = 0;
        int soonest = 100;
        for (int kind = 0; kind < 6; kind++) {
            World t = w.copy();
            t.set(one, t.ones.get(one).as(KINDS.charAt(kind), t.ones.get(one).figure()));
            int when = first(t, x -> x.aboard(one));
            when = when == -9 ? 61 : when;
            if (when < soonest) {
                soonest = when;
                best = kind;
            }
        }
        return what == 0 ? best : soonest == 61 ? -9 : soonest;
    }

    int crowd(int what) {
        if (what < 0 || what > 6) return no(-2);
        int[] many = new int[24];
        w.ones.forEach(o -> many[o.tile()]++);
        int most = IntStream.of(many).max().orElseThrow();
        int beside = 0;
        for (One a : w.ones) {
            for (One b : w.ones) {
                for (int way = 0; way < 4; way++) {
                    beside += neighbour(a.tile(), way) == b.tile() ? 1 : 0;
                }
            }
        }
        int[] answers = {
            IntStream.range(0, 24).filter(t -> many[t] == most).findFirst().orElseThrow(),
            most,
            w.many(i -> w.ones.get(i).home() == w.ones.get(i).tile()),
            w.many(i -> w.cracks.contains(w.ones.get(i).home())),
            w.many(i -> w.ones.get(i).pinned() > 0),
            beside / 2,
            IntStream.range(0, 24).filter(t -> many[t] == 0).map(t -> 1 << t).sum()};
        return answers[what];
    }

    private static int fromHome(One o) { return steps(o.home(), o.tile()); }

    int farthest(int what) {
        if (what < 0 || what > 1) return no(-2);
        if (w.ones.isEmpty()) return -9;
        int far = w.ones.stream().mapToInt(Model::fromHome).max().orElseThrow();
        return what == 1 ? far
            : IntStream.range(0, w.ones.size()).filter(i -> fromHome(w.ones.get(i)) == far).findFirst().orElseThrow();
    }

    int order(int i) {
        if (i < 0) return no(-4);
        List<Integer> sorted = IntStream.range(0, w.ones.size()).filter(x -> !w.aboard(x)).boxed()
            .sorted(Comparator.comparingInt(x -> steps(w.ones.get(x).tile(), w.ship))).toList();
        return i < sorted.size() ? sorted.get(i) : -9;
    }

    int two(int a, int b, int n) {
        if (nobody(a) || nobody(b) || a == b) return no(-1);
        if (n < 0) return no(-4);
        if (n > 9) return no(-6);
        int[][] mine = new int[2][2];
        int[][] his = new int[2][2];
        for (int x = 0; x < 2; x++) {
            for (int y = 0; y < 2; y++) {
                World t = w.copy();
                if (x == 0) t.set(a, t.ones.get(a).pinned(n));
                if (y == 0) t.set(b, t.ones.get(b).pinned(n));
                World late = t.then(n);
                mine[x][y] = (late.aboard(a) ? 5 : 0) + 2 * late.many(i -> i != a && late.aboard(i));
                his[x][y] = (late.aboard(b) ? 5 : 0) + 2 * late.many(i -> i != b && late.aboard(i));
            }
        }
        for (int x = 0; x < 2; x++) {
            for (int y = 0; y < 2; y++) {
                if (mine[1 - x][y] <= mine[x][y] && his[x][1 - y] <= his[x][y]) {
                    return 10 * x + y;
                }
            }
        }
        return -9;
    }

    private static long part(BigInteger above, BigInteger below, int part) {
        if (above.signum() == 0) return part == 0 ? 0 : 1;
        BigInteger divisor = above.gcd(below);
        return (part == 0 ? above : below).divide(divisor).longValueExact();
    }

    /** How likely in t to the n, night by night, each with coals and without. */
    private static BigInteger likely(World t, int one, int n, int odds) {
        if (n == 0) {
            return t.aboard(one) ? BigInteger.ONE : BigInteger.ZERO;
        }
        World with = t.copy();
        with.cracks.add(t.ship);
        World behind = with.next();
        behind.cracks = new TreeSet<>(t.cracks);
        return likely(behind, one, n - 1, odds)
            .add(likely(t.next(), one, n - 1, odds).multiply(BigInteger.valueOf(odds - 1)));
    }

    long coals(int one, int n, int t, int part) {
        if (nobody(one)) return noLong(-1);
        if (n < 0 || t < 2) return noLong(-4);
        if (n > 7 || t > 20) return noLong(-6);
        if (part < 0 || part > 1) return noLong(-2);
        return part(likely(w, one, n, t), BigInteger.valueOf(t).pow(n), part);
    }

    long mean(int part) {
        if (part < 0 || part > 1) return noLong(-2);
        int all = w.ones.stream().mapToInt(Model::fromHome).sum();
        return part(BigInteger.valueOf(all), BigInteger.valueOf(w.ones.size()), part);
    }

    int whatIs(int one, int what) {
        if (nobody(one)) return no(-1);
        if (what < 0 || what > 1) return no(-2);
        int bits = 0;
        for (int guess = 0; guess < (what == 0 ? 6 : 10); guess++) {
            World t = w.copy();
            One o = t.ones.get(one);
            t.set(one, what == 0 ? o.as(KINDS.charAt(guess), o.figure()) : o.as(o.kind(), guess));
            boolean so = true;
            for (int told : row) {
                so &= t.ones.get(one).tile() == told;
                t = t.next();
            }
            bits |= so ? 1 << guess : 0;
        }
        return bits;
    }

    int row(int v) {
        if (v < 0) return no(-4);
        if (v > 99 || row.size() == 16) return no(-6);
        row.add(v);
        return row.size();
    }

    int judge() {
        List<Integer> told = row;
        row = new ArrayList<>();
        for (int i = 0; i < told.size(); i++) {
            if (nobody(i) || w.ones.get(i).home() != told.get(i)) {
                return i;
            }
        }
        return -9;
    }

    int clear() {
        int had = row.size();
        row.clear();
        return had;
    }

    int lots(int n, int z, int what) {
        if (n < 1) return no(-4);
        if (n > 20) return no(-6);
        if (what < 0 || what > 1) return no(-2);
        int sum = 0;
        int[] seed = {z};
        ToIntFunction<Integer> draw = m -> {
            seed[0] = (int) (seed[0] * 1664525L + 1013904223L);
            return (int) ((seed[0] & 0x7fffffffL) / 256 % m);
        };
        for (int i = 0; i < n; i++) {
            World t = w.copy();
            for (int one = 0; one < t.ones.size(); one++) {
                t.set(one, t.ones.get(one).at(draw.applyAsInt(24)));
                t.set(one, t.ones.get(one).pinned(draw.applyAsInt(3)));
            }
            World late = t.then(10);
            sum += late.many(x -> what == 0 ? late.aboard(x) : late.ones.get(x).tile() == late.ones.get(x).home());
        }
        return sum;
    }

    int image() {
        picture = w.copy();
        return w.night;
    }

    int on() {
        if (picture == null) return no(-3);
        w = picture.copy();
        return w.night;
    }

    int count(int what) {
        switch (what) {
            case 0: return w.ones.size();
            case 1: return w.night;
            case 2: return w.crackBits();
            case 3: return w.ship;
            case 4: return w.bits(w::aboard);
            case 5: return w.many(i -> w.ones.get(i).pinned() > 0);
            case 6: return row.size();
            case 7: return text.length();
            default: return what >= 11 && what <= 16 ? refused.getOrDefault(10 - what, 0) : -9;
        }
    }
}
