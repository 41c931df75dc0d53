import java.util.ArrayList;
import java.util.HashMap;
import java.util.HashSet;
import java.util.List;
import java.util.Map;
import java.util.Set;
import java.util.TreeMap;

/**
 * The document said a second time, as slowly and plainly as can be, to compare ConvoyRoom with:
 * every minute is gone through, every MISS tried by going the whole way, ROUTES found forward.
 */
final class PlainRoom {
    private static final long LOST = -1000000000000L;
    private static final int[] X = {1000, 924, 707, 383, 0};
    private static final int[] Y = {0, 383, 707, 924, 1000};

    /** A ROUTE: one CELL for each day from day 0 on. */
    private record Way(List<Integer> cells, int danger, int fuel) {
        int days() {
            return cells.size() - 1;
        }

        int on(int day) {
            return cells.get(Math.min(day, days()));
        }
    }

    private record Label(int danger, String moves) {
        boolean betterThan(Label o) {
            return o == null || danger < o.danger
                    || danger == o.danger && moves.compareTo(o.moves) < 0;
        }
    }

    private final List<TreeMap<Integer, Integer>> plans = new ArrayList<>();
    private int thePlan = 0;
    private final List<int[]> ships = new ArrayList<>();
    private final Set<List<Integer>> misses = new HashSet<>();
    private int fogFrom = 0;
    private int fogTo = 0;
    private int centreSpeed = 10;
    private int[] lurker = {300000, 0, 5, 20000};
    private final List<int[]> posts = new ArrayList<>();
    private final int[] map = new int[144];
    private Way a = null;
    private Way b = null;
    private int aDays = 0;
    private int aFuel = 0;
    private final List<int[]> sights = new ArrayList<>();

    PlainRoom() {
        for (int i = 0; i < 4; i++) {
            plans.add(new TreeMap<>());
        }
    }

    private static boolean in(long v, long least, long most) {
        return least <= v && v <= most;
    }

    private static long sq(long v) {
        return v * v;
    }

    // ---- 1

    public int turn(int plan, int minute, int course) {
        if (!in(plan, 0, 3)) return -1;
        if (!in(minute, 0, 59) || !in(course, -4, 4)) return -2;
        if (plans.get(plan).size() == 12) return -4;
        if (plans.get(plan).containsKey(minute)) return -5;
        plans.get(plan).put(minute, course);
        return plans.get(plan).size();
    }

    public int clear(int plan) {
        if (!in(plan, 0, 3)) return -1;
        int n = plans.get(plan).size();
        plans.get(plan).clear();
        return n;
    }

    public int ofTurn(int plan, int turn, int what) {
        if (!in(plan, 0, 3) || !in(turn, 0, plans.get(plan).size() - 1)) return -101;
        if (!in(what, 0, 1)) return -102;
        int minute = new ArrayList<>(plans.get(plan).keySet()).get(turn);
        return what == 0 ? minute : plans.get(plan).get(minute);
    }

    public int course(int plan, int minute) {
        if (!in(plan, 0, 3)) return -101;
        if (!in(minute, 0, 600)) return -102;
        return courseAt(plan, minute, Set.of());
    }

    /** missed: hour and TURN of MISSES. */
    private int courseAt(int plan, int reckoned, Set<List<Integer>> missed) {
        if (reckoned < 0) return 0;
        int course = 0;
        int number = 0;
        for (Map.Entry<Integer, Integer> t : plans.get(plan).entrySet()) {
            if (t.getKey() <= reckoned % 60 && !missed.contains(List.of(reckoned / 60, number))) {
                course = t.getValue();
            }
            number++;
        }
        return course;
    }

    private static int part(int course, int what) {
        if (what == 0) return X[Math.abs(course)];
        return course < 0 ? -Y[-course] : Y[course];
    }

    public long ground(int plan, int n, int what) {
        if (!in(plan, 0, 3)) return LOST - 1;
        if (!in(n, 0, 600) || !in(what, 0, 1)) return LOST - 2;
        long sum = 0;
        for (int t = 0; t < n; t++) {
            sum += part(courseAt(plan, t, Set.of()), what);
        }
        return sum;
    }

    public int steer(int plan) {
        if (!in(plan, 0, 3)) return -1;
        int was = thePlan;
        thePlan = plan;
        return was;
    }

    public int ship(int x, int y, int speed, int clock) {
        if (!in(x, -100000, 100000) || !in(y, -100000, 100000) || !in(speed, 1, 20)
                || !in(clock, -5, 5)) return -2;
        if (ships.size() == 9) return -4;
        ships.add(new int[] {x, y, speed, clock});
        return ships.size() - 1;
    }

    public int miss(int ship, int hour, int turn) {
        if (!in(ship, 0, ships.size() - 1)) return -1;
        if (!in(hour, 0, 9) || !in(turn, 0, 11)) return -2;
        if (misses.size() == 20) return -4;
        return misses.add(List.of(ship, hour, turn)) ? misses.size() : -5;
    }

    public int fog(int from, int to) {
        if (!in(from, 0, 600) || !in(to, 0, 600) || from > to) return -2;
        fogFrom = from;
        fogTo = to;
        return 1;
    }

    /** All places of a ship from minute 0 to n, as n + 1 pairs. */
    private long[][] way(int[] s, Set<List<Integer>> missed, int n) {
        long[][] way = new long[n + 1][2];
        way[0][0] = s[0];
        way[0][1] = s[1];
        for (int t = 0; t < n; t++) {
            int course = t >= fogFrom && t < fogTo ? 0 : courseAt(thePlan, t + s[3], missed);
            way[t + 1][0] = way[t][0] + (long) s[2] * part(course, 0);
            way[t + 1][1] = way[t][1] + (long) s[2] * part(course, 1);
        }
        return way;
    }

    private Set<List<Integer>> missesOf(int ship) {
        Set<List<Integer>> its = new HashSet<>();
        for (List<Integer> m : misses) {
            if (m.get(0) == ship) its.add(List.of(m.get(1), m.get(2)));
        }
        return its;
    }

    public long place(int ship, int minute, int what) {
        if (!in(ship, 0, ships.size() - 1)) return LOST - 1;
        if (!in(minute, 0, 600) || !in(what, 0, 1)) return LOST - 2;
        return way(ships.get(ship), missesOf(ship), minute)[minute][what];
    }

    private List<long[][]> ways(int n) {
        List<long[][]> all = new ArrayList<>();
        for (int i = 0; i < ships.size(); i++) {
            all.add(way(ships.get(i), missesOf(i), n));
        }
        return all;
    }

    private static long between(long[] p, long[] q) {
        return sq(p[0] - q[0]) + sq(p[1] - q[1]);
    }

    public long nearest(int n, int what) {
        if (!in(n, 0, 600) || !in(what, 0, 3)) return LOST - 2;
        if (ships.size() < 2) return LOST - 3;
        long[] best = null;
        List<long[][]> all = ways(n);
        for (int t = 0; t <= n; t++) {
            for (int i = 0; i < ships.size(); i++) {
                for (int j = i + 1; j < ships.size(); j++) {
                    long d = between(all.get(i)[t], all.get(j)[t]);
                    if (best == null || d < best[0]) best = new long[] {d, t, i, j};
                }
            }
        }
        return best[what];
    }

    public int close(int n, int d) {
        if (!in(n, 0, 600) || !in(d, 0, 1000000)) return -2;
        List<long[][]> all = ways(n);
        int count = 0;
        for (int t = 0; t <= n; t++) {
            boolean near = false;
            for (int i = 0; i < ships.size(); i++) {
                for (int j = i + 1; j < ships.size(); j++) {
                    near |= between(all.get(i)[t], all.get(j)[t]) < sq(d);
                }
            }
            if (near) count++;
        }
        return count;
    }

    // ---- 2

    public int centre(int speed) {
        if (!in(speed, 1, 20)) return -2;
        int was = centreSpeed;
        centreSpeed = speed;
        return was;
    }

    public int lurk(int x, int y, int speed, int reach) {
        if (!in(x, -2000000, 2000000) || !in(y, -2000000, 2000000) || !in(speed, 1, 20)
                || !in(reach, 0, 200000)) return -2;
        lurker = new int[] {x, y, speed, reach};
        return 1;
    }

    private long[] centreAt(int plan, int t) {
        return new long[] {centreSpeed * ground(plan, t, 0), centreSpeed * ground(plan, t, 1)};
    }

    private long[] lurkerPlace() {
        return new long[] {lurker[0], lurker[1]};
    }

    public int comes(int plan) {
        if (!in(plan, 0, 3)) return -1;
        for (int t = 0; t <= 600; t++) {
            long way = 1000L * lurker[2] * t + lurker[3];
            if (between(centreAt(plan, t), lurkerPlace()) <= sq(way)) {
                return t;
            }
        }
        return -6;
    }

    public int gets(int plan, int t) {
        if (!in(plan, 0, 3)) return -1;
        if (!in(t, 0, 600)) return -2;
        long[] at = centreAt(plan, t);
        if (between(at, lurkerPlace()) > sq(1000L * lurker[2] * t)) return 0;
        int bits = 0;
        for (int p = 0; p < 4; p++) {
            if (between(at, centreAt(p, t)) <= sq(lurker[3])) bits += 1 << p;
        }
        return bits;
    }

    /** The sum and the PLAN; got is what it GETS by each PLAN. */
    private static int[] worstOf(int[] got, int[] weights) {
        int[] worst = {0, -6};
        for (int p = 3; p >= 0; p--) {
            int sum = 0;
            for (int q = 0; q < 4; q++) {
                if ((got[p] & 1 << q) != 0) sum += weights[q];
            }
            if (got[p] != 0 && sum >= worst[0]) worst = new int[] {sum, p};
        }
        return worst;
    }

    private int[] allGot(int t) {
        return new int[] {gets(0, t), gets(1, t), gets(2, t), gets(3, t)};
    }

    public int worst(int t, int a, int b, int c, int d, int what) {
        if (!in(t, 0, 600) || !in(what, 0, 1)) return -2;
        int[] weights = {a, b, c, d};
        for (int w : weights) {
            if (!in(w, 0, 20)) return -2;
        }
        return worstOf(allGot(t), weights)[what];
    }

    public int mix(int t, int n, int what) {
        if (!in(t, 0, 600) || !in(n, 1, 12) || !in(what, 0, 4)) return -2;
        int[] got = allGot(t);
        int[] best = null;
        for (int code = 0; code < 13 * 13 * 13 * 13; code++) {
            int[] w = {code / 2197, code / 169 % 13, code / 13 % 13, code % 13};
            if (w[0] + w[1] + w[2] + w[3] == n) {
                int worst = worstOf(got, w)[0];
                if (best == null || worst < best[4]) {
                    best = new int[] {w[0], w[1], w[2], w[3], worst};
                }
            }
        }
        return best[what];
    }

    // ---- 3

    public int post(int x, int y, int range) {
        if (!in(x, -50, 50) || !in(y, -50, 50) || !in(range, 1, 40)) return -2;
        if (posts.size() == 10) return -4;
        posts.add(new int[] {x, y, range});
        return posts.size() - 1;
    }

    public int seen(int bits, int d) {
        if (!in(bits, 0, (1 << posts.size()) - 1) || !in(d, 1, 50)) return -2;
        int count = 0;
        for (int x = -d; x <= d; x++) {
            for (int y = -d; y <= d; y++) {
                boolean sees = false;
                for (int i = 0; i < posts.size(); i++) {
                    int[] p = posts.get(i);
                    sees |= (bits & 1 << i) != 0 && sq(x - p[0]) + sq(y - p[1]) <= sq(p[2]);
                }
                if (sees && Math.max(Math.abs(x), Math.abs(y)) == d) count++;
            }
        }
        return count;
    }

    public int best(int k, int d) {
        if (!in(k, 0, posts.size()) || !in(d, 1, 50)) return -2;
        int best = 0;
        int most = -1;
        for (int bits = (1 << posts.size()) - 1; bits >= 0; bits--) {
            if (Integer.bitCount(bits) == k && seen(bits, d) >= most) {
                best = bits;
                most = seen(bits, d);
            }
        }
        return best;
    }

    // ---- 4

    public int danger(int x, int y, int v) {
        if (!in(x, 0, 11) || !in(y, 0, 11)) return -101;
        if (!in(v, -1, 99)) return -102;
        int was = map[12 * y + x];
        map[12 * y + x] = v;
        return was;
    }

    private static boolean beside(int c, int d, int e) {
        return Math.abs(c % 12 - d % 12) <= e && Math.abs(c / 12 - d / 12) <= e;
    }

    /** e below 0: there is no ROUTE A to keep away from. */
    private boolean allowed(int c, int day, int e) {
        if (map[c] == -1) return false;
        if (e < 0) return true;
        return !(day > 0 && beside(c, a.on(day - 1), e)) && !beside(c, a.on(day), e)
                && !beside(c, a.on(day + 1), e);
    }

    private boolean allowedForEver(int c, int day, int e) {
        for (int i = day; i <= 100; i++) {
            if (!allowed(c, i, e)) return false;
        }
        return true;
    }

    private Way find(int from, int to, int days, int fuel, int e) {
        return days <= 4 ? findAmongAll(from, to, days, fuel, e)
                : findForward(from, to, days, fuel, e);
    }

    /** Every ROUTE there is, in the order of the last rule, so that only a better one replaces. */
    private Way findAmongAll(int from, int to, int days, int fuel, int e) {
        Way[] best = new Way[1];
        if (allowed(from, 0, e)) {
            List<Integer> cells = new ArrayList<>();
            cells.add(from);
            goOn(new Way(cells, 0, 0), to, days, fuel, e, best);
        }
        return best[0];
    }

    private void goOn(Way w, int to, int days, int fuel, int e, Way[] best) {
        int here = w.on(w.days());
        if (here == to && allowedForEver(to, w.days(), e)) {
            Way o = best[0];
            if (o == null || w.danger < o.danger || w.danger == o.danger && (w.days() < o.days()
                    || w.days() == o.days() && w.fuel < o.fuel)) {
                best[0] = w;
            }
        }
        if (w.days() == days) return;
        for (int m = -1; m < 144; m++) {
            int next = m < 0 ? here : m;
            if (m == here || !beside(here, next, 1) || !allowed(next, w.days() + 1, e)) continue;
            int used = w.fuel + (m < 0 ? 0 : 1);
            if (used > fuel) continue;
            List<Integer> cells = new ArrayList<>(w.cells);
            cells.add(next);
            goOn(new Way(cells, w.danger + map[next], used), to, days, fuel, e, best);
        }
    }

    /** For each day, CELL and FUEL used the least DANGER and then the first moves. */
    private Way findForward(int from, int to, int days, int fuel, int e) {
        if (!allowed(from, 0, e)) return null;
        Label[][] now = new Label[144][fuel + 1];
        now[from][0] = new Label(0, "");
        Label best = null;
        int bestFuel = 0;
        for (int day = 0; day <= days; day++) {
            for (int f = 0; f <= fuel && allowedForEver(to, day, e); f++) {
                Label l = now[to][f];
                // Fewer days and then less FUEL come first, so only less DANGER replaces.
                if (l != null && (best == null || l.danger < best.danger)) {
                    best = l;
                    bestFuel = f;
                }
            }
            now = nextDay(now, day + 1, fuel, e);
        }
        if (best == null) return null;
        List<Integer> cells = new ArrayList<>();
        cells.add(from);
        for (char m : best.moves.toCharArray()) {
            cells.add(m == 0 ? cells.get(cells.size() - 1) : m - 1);
        }
        return new Way(cells, best.danger, bestFuel);
    }

    private Label[][] nextDay(Label[][] now, int day, int fuel, int e) {
        Label[][] next = new Label[144][fuel + 1];
        for (int c = 0; c < 144; c++) {
            if (!allowed(c, day, e)) continue;
            for (int p = 0; p < 144; p++) {
                if (!beside(c, p, 1)) continue;
                int cost = p == c ? 0 : 1;
                for (int f = cost; f <= fuel; f++) {
                    Label l = now[p][f - cost];
                    if (l == null) continue;
                    Label n = new Label(l.danger + map[c], l.moves + (char) (p == c ? 0 : c + 1));
                    if (n.betterThan(next[c][f])) next[c][f] = n;
                }
            }
        }
        return next;
    }

    public int route(int from, int to, int days, int fuel) {
        if (!in(from, 0, 143) || !in(to, 0, 143)) return -1;
        if (!in(days, 0, 40) || !in(fuel, 0, 40)) return -2;
        Way w = find(from, to, days, fuel, -1);
        if (w == null) return -5;
        a = w;
        aDays = days;
        aFuel = fuel;
        return w.danger;
    }

    public int apart(int from, int to, int days, int fuel, int e) {
        if (!in(from, 0, 143) || !in(to, 0, 143)) return -1;
        if (!in(days, 0, 40) || !in(fuel, 0, 40) || !in(e, 0, 5)) return -2;
        if (a == null) return -3;
        Way w = find(from, to, days, fuel, e);
        if (w == null) return -5;
        b = w;
        return w.danger;
    }

    public int cell(int which, int i) {
        if (!in(which, 0, 1) || !in(i, -2, 40)) return -2;
        Way w = which == 0 ? a : b;
        if (w == null) return -6;
        return i == -1 ? w.days() : i == -2 ? w.fuel : w.on(i);
    }

    public int word(int day, int to) {
        if (!in(to, 0, 143)) return -1;
        if (!in(day, 0, a == null ? 40 : a.days())) return -2;
        if (a == null) return -3;
        int used = 0;
        for (int i = 1; i <= day; i++) {
            if (a.on(i) != a.on(i - 1)) used++;
        }
        Way w = find(a.on(day), to, aDays - day, aFuel - used, -1);
        if (w == null) return -5;
        List<Integer> cells = new ArrayList<>(a.cells.subList(0, day));
        cells.addAll(w.cells);
        a = new Way(cells, 0, used + w.fuel);
        return w.danger;
    }

    // ---- 5

    public int sight(int minute, int x, int y) {
        if (!in(minute, 0, 600) || !in(x, -10000000, 10000000) || !in(y, -10000000, 10000000)) {
            return -2;
        }
        if (sights.size() == 12) return -4;
        sights.add(new int[] {minute, x, y});
        return sights.size();
    }

    public int forget() {
        int n = sights.size();
        sights.clear();
        return n;
    }

    private long misfit(int[] ship, Set<List<Integer>> missed) {
        long[][] way = way(ship, missed, 600);
        long sum = 0;
        for (int[] s : sights) {
            sum += Math.abs(way[s[0]][0] - s[1]) + Math.abs(way[s[0]][1] - s[2]);
        }
        return sum;
    }

    public long told(int x, int y, int speed, int what) {
        if (!in(x, -100000, 100000) || !in(y, -100000, 100000) || !in(speed, 1, 20)
                || !in(what, 0, 3)) return LOST - 2;
        if (sights.isEmpty()) return LOST - 3;
        long[] best = null;
        for (int size = 0; size <= 5; size++) {
            for (int clock = -size; clock <= size; clock += Math.max(1, 2 * size)) {
                int[] ship = {x, y, speed, clock};
                long none = misfit(ship, Set.of());
                if (best == null || none < best[0]) best = new long[] {none, clock, -6, -6};
                for (int hour = 0; hour < 10; hour++) {
                    for (int turn = 0; turn < plans.get(thePlan).size(); turn++) {
                        long one = misfit(ship, Set.of(List.of(hour, turn)));
                        if (one < best[0]) best = new long[] {one, clock, hour, turn};
                    }
                }
            }
        }
        return best[what];
    }

    public int about(int what) {
        Map<Integer, Integer> all = new HashMap<>();
        all.put(0, thePlan);
        all.put(1, ships.size());
        all.put(2, misses.size());
        all.put(3, fogFrom);
        all.put(4, fogTo);
        all.put(5, posts.size());
        int land = 0;
        for (int v : map) {
            if (v == -1) land++;
        }
        all.put(6, land);
        all.put(7, sights.size());
        for (int i = 0; i < 4; i++) {
            all.put(10 + i, plans.get(i).size());
        }
        return all.getOrDefault(what, -2);
    }
}
