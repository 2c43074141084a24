import java.math.BigInteger;
import java.util.ArrayList;
import java.util.List;
import java.util.TreeSet;
import java.util.regex.Matcher;
import java.util.regex.Pattern;

/**
 * The document once more, in the plainest words and without a thought for speed: whatever it says
 * of all ways is gone through way by way. ModelTest holds HailVotes against it.
 */
final class Model {
    static final int NONE = -1, BAD = -2, NO = -3, FULL = -4;

    static final class Roof {
        int kind, age, blueShards = NONE, brownShards = NONE;
        int[][] tiles = new int[2][2];

        Roof copy() {
            Roof r = new Roof();
            r.kind = kind;
            r.age = age;
            r.blueShards = blueShards;
            r.brownShards = brownShards;
            for (int s = 0; s < 2; s++) {
                r.tiles[s] = tiles[s].clone();
            }
            return r;
        }
    }

    record Storm(int from, int to, int wind, int size, int chance) { }

    static final class State {
        List<Roof> roofs = new ArrayList<>();
        List<Storm> storms = new ArrayList<>();
        TreeSet<Integer> cannons = new TreeSet<>();
        int years;
        List<State> past = new ArrayList<>();

        State copy() {
            State s = new State();
            for (Roof r : roofs) {
                s.roofs.add(r.copy());
            }
            s.storms.addAll(storms);
            s.cannons.addAll(cannons);
            s.years = years;
            for (State p : past) {
                s.past.add(p.copy());
            }
            return s;
        }
    }

    State now = new State();
    State[] images = new State[2];
    StringBuilder text = new StringBuilder();
    long above = 0, below = 1;
    int[] refused = new int[3];

    private int refuse(int reason) {
        refused[-2 - reason]++;
        return reason;
    }

    private void fraction(long a, long b) {
        long g = BigInteger.valueOf(a).gcd(BigInteger.valueOf(b)).longValue();
        above = a / g;
        below = b / g;
    }

    private static boolean in(int v, int a, int b) {
        return a <= v && v <= b;
    }

    private boolean noRoof(int roof) {
        return !in(roof, 0, now.roofs.size() - 1);
    }

    private boolean noStorm(int storm) {
        return !in(storm, 0, now.storms.size() - 1);
    }

    int roof(int kind, int age, int b0, int n0, int b1, int n1) {
        if (!in(kind, 0, 5) || !in(age, 0, 9) || !in(b0, 0, 9) || !in(n0, 0, 9) || !in(b1, 0, 9) || !in(n1, 0, 9)) {
            return refuse(BAD);
        }
        if (now.roofs.size() == 7) {
            return refuse(FULL);
        }
        now.roofs.add(newRoof(kind, age, b0, n0, b1, n1));
        return now.roofs.size() - 1;
    }

    private static Roof newRoof(int kind, int age, int b0, int n0, int b1, int n1) {
        Roof r = new Roof();
        r.kind = kind;
        r.age = age;
        r.tiles = new int[][] {{b0, n0}, {b1, n1}};
        return r;
    }

    int storm(int from, int to, int wind, int size, int chance) {
        if (!in(from, 0, 6) || !in(to, 0, 6) || from > to || !in(wind, 0, 1) || !in(size, 1, 9) || !in(chance, 1, 9)) {
            return refuse(BAD);
        }
        if (now.storms.size() == 6) {
            return refuse(FULL);
        }
        now.storms.add(new Storm(from, to, wind, size, chance));
        return now.storms.size() - 1;
    }

    int cannon(int place, boolean is) {
        if (!in(place, 0, 6)) {
            return refuse(BAD);
        }
        if (now.cannons.contains(place) == is) {
            return refuse(NO);
        }
        if (is) {
            now.cannons.add(place);
        } else {
            now.cannons.remove(place);
        }
        return 1;
    }

    int tiles(int roof, int slope, int what) {
        if (noRoof(roof) || !in(slope, 0, 1) || !in(what, 0, 1)) {
            return refuse(BAD);
        }
        return now.roofs.get(roof).tiles[slope][what];
    }

    int type(long v, int n) {
        if (!in(n, 1, 8)) {
            return refuse(BAD);
        }
        if (text.length() + n > 250) {
            return refuse(FULL);
        }
        StringBuilder back = new StringBuilder();
        for (int i = 0; i < n; i++) {
            back.append((char) (v & 255));
            v >>= 8;
        }
        text.append(back.reverse());
        return text.length();
    }

    int clear() {
        int had = text.length();
        text = new StringBuilder();
        return had;
    }

    private static final Pattern TOKEN = Pattern.compile("[a-z]+|[0-9]+|;|[^ ]", Pattern.DOTALL);

    int read() {
        List<String> tokens = new ArrayList<>();
        List<Integer> places = new ArrayList<>();
        Matcher m = TOKEN.matcher(text);
        while (m.find()) {
            tokens.add(m.group());
            places.add(m.start());
        }
        int whole = tokens.size();
        tokens.add("");
        places.add(text.length());
        State s = new State();
        int at = 0;
        int items = 0;
        while (at < whole) {
            String word = tokens.get(at);
            String ranges;
            if (word.equals("roof") && s.roofs.size() < 7) {
                ranges = "050909090909";
            } else if (word.equals("storm") && s.storms.size() < 6) {
                ranges = "0606011919";
            } else if (word.equals("cannon")) {
                ranges = "06";
            } else {
                return -10 - places.get(at);
            }
            at++;
            int n = ranges.length() / 2;
            int[] v = new int[n];
            for (int i = 0; i < n; i++, at++) {
                String token = tokens.get(at);
                boolean fits = token.length() == 1 && token.charAt(0) >= ranges.charAt(2 * i)
                    && token.charAt(0) <= ranges.charAt(2 * i + 1);
                if (fits) {
                    v[i] = token.charAt(0) - '0';
                    fits = !(word.equals("storm") && i == 1 && v[1] < v[0])
                        && !(word.equals("cannon") && s.cannons.contains(v[0]));
                }
                if (!fits) {
                    return -10 - places.get(at);
                }
            }
            if (!tokens.get(at).equals(";")) {
                return -10 - places.get(at);
            }
            at++;
            items++;
            switch (word) {
                case "roof" -> s.roofs.add(newRoof(v[0], v[1], v[2], v[3], v[4], v[5]));
                case "storm" -> s.storms.add(new Storm(v[0], v[1], v[2], v[3], v[4]));
                default -> s.cannons.add(v[0]);
            }
        }
        now = s;
        return items;
    }

    private static int forceIn(State st, Storm s, int roof, int slope) {
        if (roof < s.from || roof > s.to) {
            return 0;
        }
        int f = slope == s.wind ? s.size : s.size / 2;
        for (int p : st.cannons) {
            int off = Math.abs(p - roof);
            f -= off == 0 ? 2 : off == 1 ? 1 : 0;
        }
        return Math.max(f, 0);
    }

    private static int law(int kind, int f, int age) {
        return switch (kind) {
            case 0 -> f;
            case 1 -> law(0, f, age) + age;
            case 2 -> law(0, f, age) / 2;
            case 3 -> law(2, f, age) - 1;
            case 4 -> law(1, f, age) - 3;
            default -> 0;
        };
    }

    private static int brokenIn(State st, Storm s, int roof, int slope, int paint) {
        Roof r = st.roofs.get(roof);
        int f = forceIn(st, s, roof, slope);
        int n = f == 0 ? 0 : law(r.kind, f, r.age);
        return Math.min(Math.max(n, 0), r.tiles[slope][paint]);
    }

    private static int brokenIn(State st, Storm s, int roof, int paint) {
        return brokenIn(st, s, roof, 0, paint) + brokenIn(st, s, roof, 1, paint);
    }

    private static int brokenIn(State st, Storm s, int paint) {
        int n = 0;
        for (int r = 0; r < st.roofs.size(); r++) {
            n += brokenIn(st, s, r, paint);
        }
        return n;
    }

    private static int winner(State st, Storm s) {
        int blue = brokenIn(st, s, 0);
        int brown = brokenIn(st, s, 1);
        return blue > brown ? 1 : brown > blue ? 0 : NONE;
    }

    private static int chances(State st, int winner) {
        return st.storms.stream().filter(s -> winner(st, s) == winner).mapToInt(Storm::chance).sum();
    }

    private int whole() {
        return now.storms.stream().mapToInt(Storm::chance).sum();
    }

    int force(int storm, int roof, int slope) {
        if (noStorm(storm) || noRoof(roof) || !in(slope, 0, 1)) {
            return refuse(BAD);
        }
        return forceIn(now, now.storms.get(storm), roof, slope);
    }

    int breaks(int storm, int roof, int what) {
        if (noStorm(storm) || (roof != NONE && noRoof(roof)) || !in(what, 0, 1)) {
            return refuse(BAD);
        }
        Storm s = now.storms.get(storm);
        return roof == NONE ? brokenIn(now, s, what) : brokenIn(now, s, roof, what);
    }

    int wins(int storm) {
        return noStorm(storm) ? refuse(BAD) : winner(now, now.storms.get(storm));
    }

    int odds(int what) {
        if (!in(what, 0, 2)) {
            return refuse(BAD);
        }
        if (now.storms.isEmpty()) {
            return refuse(NO);
        }
        fraction(chances(now, what == 2 ? NONE : what), whole());
        return 1;
    }

    private int bestChance;
    private int[] bestWay;

    private void tryWays(State st, int who, int left, int slope, int[] way) {
        if (slope == way.length) {
            int c = chances(st, who);
            if (c > bestChance) {
                bestChance = c;
                bestWay = way.clone();
            }
            return;
        }
        int[] t = st.roofs.get(slope / 2).tiles[slope % 2];
        int other = t[1 - who];
        for (int k = 0; k <= left && k <= other; k++) {
            way[slope] = k;
            t[1 - who] -= k;
            t[who] += k;
            tryWays(st, who, left - k, slope + 1, way);
            t[1 - who] += k;
            t[who] -= k;
        }
        way[slope] = 0;
    }

    private void searchPaint(int who, int n) {
        bestChance = -1;
        tryWays(now.copy(), who, n, 0, new int[2 * now.roofs.size()]);
    }

    int paint(int who, int n) {
        if (!in(who, 0, 1) || !in(n, 0, 4)) {
            return refuse(BAD);
        }
        if (now.storms.isEmpty()) {
            return refuse(NO);
        }
        searchPaint(who, n);
        fraction(bestChance, whole());
        return 1;
    }

    int brush(int who, int n, int roof, int slope) {
        if (!in(who, 0, 1) || !in(n, 0, 4) || noRoof(roof) || !in(slope, 0, 1)) {
            return refuse(BAD);
        }
        if (now.storms.isEmpty()) {
            return refuse(NO);
        }
        searchPaint(who, n);
        return bestWay[2 * roof + slope];
    }

    private static State painted(State st, int slope, int who) {
        State s = st.copy();
        if (slope < 2 * st.roofs.size()) {
            int[] t = s.roofs.get(slope / 2).tiles[slope % 2];
            if (t[1 - who] == 0) {
                return null;
            }
            t[1 - who]--;
            t[who]++;
        }
        return s;
    }

    int against() {
        if (now.storms.isEmpty()) {
            refuse(NO);
            return -20;
        }
        int none = 2 * now.roofs.size();
        int best = Integer.MIN_VALUE;
        int bestSlope = none;
        State bare = now.copy();
        bare.past.clear();
        for (int i = 0; i <= none; i++) {
            State blue = painted(bare, i, 0);
            if (blue == null) {
                continue;
            }
            int least = Integer.MAX_VALUE;
            for (int j = 0; j <= none; j++) {
                State brown = painted(blue, j, 1);
                if (brown != null) {
                    least = Math.min(least, chances(brown, 0) - chances(brown, 1));
                }
            }
            if (least > best) {
                best = least;
                bestSlope = i;
            }
        }
        fraction(best, whole());
        return bestSlope == none ? NONE : bestSlope;
    }

    private List<Storm> decided(int roof) {
        State bare = now.copy();
        bare.roofs.get(roof).tiles = new int[2][2];
        List<Storm> found = new ArrayList<>();
        for (Storm s : now.storms) {
            if (winner(bare, s) != winner(now, s)) {
                found.add(s);
            }
        }
        return found;
    }

    int decides(int roof) {
        return noRoof(roof) ? refuse(BAD) : decided(roof).size();
    }

    int power(int roof) {
        if (noRoof(roof)) {
            return refuse(BAD);
        }
        if (now.storms.isEmpty()) {
            return refuse(NO);
        }
        fraction(decided(roof).stream().mapToInt(Storm::chance).sum(), whole());
        return 1;
    }

    int shield(int who) {
        if (!in(who, 0, 1)) {
            return refuse(BAD);
        }
        if (now.storms.isEmpty()) {
            return refuse(NO);
        }
        int best = NONE;
        for (int p = 0; p < 7; p++) {
            State s = now.copy();
            if (s.cannons.add(p) && (best == NONE || chances(s, who) * below > above * whole())) {
                best = p;
                fraction(chances(s, who), whole());
            }
        }
        return best;
    }

    int shards(int roof, int blue, int brown) {
        if (noRoof(roof) || !in(blue, -1, 18) || !in(brown, -1, 18) || (blue == -1) != (brown == -1)) {
            return refuse(BAD);
        }
        now.roofs.get(roof).blueShards = blue;
        now.roofs.get(roof).brownShards = brown;
        return 1;
    }

    int which(int what) {
        if (!in(what, 0, 1)) {
            return refuse(BAD);
        }
        int storms = 0;
        int roofsBroken = 0;
        int roofsTold = 0;
        for (int r = 0; r < now.roofs.size(); r++) {
            roofsTold |= now.roofs.get(r).blueShards == NONE ? 0 : 1 << r;
        }
        for (int s = 0; s < now.storms.size(); s++) {
            int as = 0;
            for (int r = 0; r < now.roofs.size(); r++) {
                Roof it = now.roofs.get(r);
                boolean so = brokenIn(now, now.storms.get(s), r, 0) == it.blueShards
                    && brokenIn(now, now.storms.get(s), r, 1) == it.brownShards;
                as |= so ? 1 << r : 0;
            }
            storms |= (as & roofsTold) == roofsTold ? 1 << s : 0;
            roofsBroken |= as;
        }
        return what == 0 ? storms : roofsTold & ~roofsBroken;
    }

    /** Looks at m of the broken tiles one after the other, without putting them back. */
    private static BigInteger ordered(int mine, int others, int looks, int ahead) {
        if (looks == 0) {
            return ahead > 0 ? BigInteger.ONE : BigInteger.ZERO;
        }
        BigInteger sum = BigInteger.ZERO;
        if (mine > 0) {
            sum = sum.add(BigInteger.valueOf(mine).multiply(ordered(mine - 1, others, looks - 1, ahead + 1)));
        }
        if (others > 0) {
            sum = sum.add(BigInteger.valueOf(others).multiply(ordered(mine, others - 1, looks - 1, ahead - 1)));
        }
        return sum;
    }

    int recount(int storm, int m) {
        if (noStorm(storm) || !in(m, 1, 8)) {
            return refuse(BAD);
        }
        int blue = brokenIn(now, now.storms.get(storm), 0);
        int brown = brokenIn(now, now.storms.get(storm), 1);
        if (m > blue + brown) {
            return refuse(BAD);
        }
        if (blue == brown) {
            return refuse(NO);
        }
        BigInteger good = ordered(Math.max(blue, brown), Math.min(blue, brown), m, 0);
        BigInteger all = BigInteger.ONE;
        for (int i = 0; i < m; i++) {
            all = all.multiply(BigInteger.valueOf(blue + brown - i));
        }
        BigInteger g = good.gcd(all);
        above = good.divide(g).longValueExact();
        below = all.divide(g).longValueExact();
        return 1;
    }

    private static int pass(State st, int storm) {
        int broke = 0;
        State before = st.copy();
        for (int r = 0; r < st.roofs.size(); r++) {
            Roof it = st.roofs.get(r);
            for (int i = 0; i < 4 && storm != NONE; i++) {
                int n = brokenIn(before, before.storms.get(storm), r, i / 2, i % 2);
                it.tiles[i / 2][i % 2] -= n;
                broke += n;
            }
            it.age += it.age < 9 ? 1 : 0;
        }
        st.years++;
        return broke;
    }

    int year(int storm) {
        if (storm != NONE && noStorm(storm)) {
            return refuse(BAD);
        }
        State before = now.copy();
        before.past.clear();
        now.past.add(before);
        if (now.past.size() > 3) {
            now.past.remove(0);
        }
        return pass(now, storm);
    }

    int undo() {
        if (now.past.isEmpty()) {
            return refuse(NO);
        }
        List<State> past = now.past;
        now = past.remove(past.size() - 1);
        now.past = past;
        return 1;
    }

    int drawn(int seed, int y) {
        if (!in(seed, 0, 999999) || !in(y, 0, 20)) {
            refuse(BAD);
            return -1000;
        }
        State s = now.copy();
        long x = seed;
        int result = 0;
        for (int i = 0; i < y; i++) {
            x = (x * 1103515245L + 12345L) % (1L << 31);
            long r = (x / 65536) % (whole() + 1);
            int storm = NONE;
            for (int k = s.storms.size() - 1; k >= 0; k--) {
                int together = s.storms.subList(0, k + 1).stream().mapToInt(Storm::chance).sum();
                storm = together > r ? k : storm;
            }
            int w = storm == NONE ? NONE : winner(s, s.storms.get(storm));
            result += w == 0 ? 1 : w == 1 ? -1 : 0;
            pass(s, storm);
        }
        return result;
    }

    long part(int what) {
        if (!in(what, 0, 1)) {
            refuse(BAD);
            return -1000;
        }
        return what == 0 ? above : below;
    }

    int image(int i) {
        if (!in(i, 0, 1)) {
            return refuse(BAD);
        }
        images[i] = now.copy();
        return 1;
    }

    int from(int i) {
        if (!in(i, 0, 1)) {
            return refuse(BAD);
        }
        if (images[i] == null) {
            return refuse(NO);
        }
        now = images[i].copy();
        return 1;
    }

    int status(int what) {
        if (!in(what, 0, 2)) {
            refuse(BAD);
            return -1;
        }
        return refused[what];
    }

    int count(int what) {
        return switch (what) {
            case 0 -> now.roofs.size();
            case 1 -> now.storms.size();
            case 2 -> now.cannons.size();
            case 3 -> now.years;
            case 4 -> now.past.size();
            case 5 -> text.length();
            default -> refuse(BAD);
        };
    }

    long digest() {
        List<Long> v = new ArrayList<>();
        for (int i = 0; i < 6; i++) {
            v.add((long) count(i));
        }
        for (Roof r : now.roofs) {
            for (int x : new int[] {r.kind, r.age, r.tiles[0][0], r.tiles[0][1], r.tiles[1][0], r.tiles[1][1],
                r.blueShards, r.brownShards}) {
                v.add((long) x);
            }
        }
        for (Storm s : now.storms) {
            for (int x : new int[] {s.from, s.to, s.wind, s.size, s.chance}) {
                v.add((long) x);
            }
        }
        for (int p = 0; p < 7; p++) {
            v.add(now.cannons.contains(p) ? 1L : 0L);
        }
        v.add(above);
        v.add(below);
        long h = 719;
        for (long x : v) {
            h = 31 * h + x;
        }
        return h;
    }
}
