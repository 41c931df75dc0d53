/**
 * A convoy that turns by plans, and what can be reckoned about it: where its ships are, what a
 * lurker gets, what escorts see, which routes are best, and what a log with gaps tells.
 *
 * No call makes objects but the first one that asks for a route; all rows are made once and used
 * again, because all that a room makes is counted.
 */
public final class ConvoyRoom {
    public static final int UNKNOWN = -1, OUTSIDE = -2, STATE = -3, FULL = -4, NO = -5, NONE = -6;
    public static final long LOST = -1000000000000L;

    /** Added to a refusal where the plain one could be mistaken for a course or a danger. */
    private static final int MASKED = -100;
    /** More than any square of a distance and any MISFIT can be. */
    private static final long BEYOND_ALL = 1L << 62;

    private static final int PLANS = 4;
    private static final int MOST_TURNS = 12;
    private static final int HOUR = 60;
    private static final int HOURS = 10;
    private static final int LAST_MINUTE = 600;
    private static final int FASTEST = 20;
    private static final int FARTHEST_COURSE = 4;

    private static final int MOST_SHIPS = 9;
    private static final int MOST_MISSES = 20;
    private static final int SHIP_FIELD = 100000;
    private static final int WORST_CLOCK = 5;
    private static final int WIDEST_GAP = 1000000;

    private static final int LURK_FIELD = 2000000;
    private static final int LONGEST_REACH = 200000;
    private static final int HEAVIEST = 20;
    private static final int LARGEST_MIX = 12;
    private static final int A_MINUTE = 1000;

    private static final int MOST_POSTS = 10;
    private static final int POST_FIELD = 50;
    private static final int LONGEST_RANGE = 40;
    private static final int WIDEST_RING = 50;

    private static final int SIDE = 12;
    private static final int CELLS = SIDE * SIDE;
    private static final int LAND = -1;
    private static final int MOST_DANGER = 99;
    private static final int MOST_DAYS = 40;
    private static final int MOST_FUEL = 40;
    private static final int WIDEST_APART = 5;
    private static final int ALONE = -1;

    private static final int MOST_SIGHTS = 12;
    private static final int SIGHT_FIELD = 10000000;

    private static final int[] AHEAD = {1000, 924, 707, 383, 0};
    private static final int[] ACROSS = {0, 383, 707, 924, 1000};

    private final Plan[] plans = new Plan[PLANS];
    private int steered = 0;
    private final Fog weather = new Fog();
    private final Fleet fleet = new Fleet();
    private int centreSpeed = 10;
    private final Lurker lurker = new Lurker();
    private final Screen screen = new Screen();
    private final int[] dangers = new int[CELLS];
    private final Voyage routeA = new Voyage();
    private final Voyage routeB = new Voyage();
    private Pilot pilot = null;
    private final Log log = new Log();

    public ConvoyRoom() {
        for (int i = 0; i < PLANS; i++) {
            plans[i] = new Plan();
        }
    }

    // ---- 1 plans, ships

    public int turn(int plan, int minute, int course) {
        if (!isPlan(plan)) {
            return UNKNOWN;
        }
        if (!within(minute, 0, HOUR - 1) || !within(course, -FARTHEST_COURSE, FARTHEST_COURSE)) {
            return OUTSIDE;
        }
        Plan p = plans[plan];
        if (p.count >= MOST_TURNS) {
            return FULL;
        }
        if (p.turnsAt(minute)) {
            return NO;
        }
        p.insert(minute, course);
        return p.count;
    }

    public int clear(int plan) {
        if (!isPlan(plan)) {
            return UNKNOWN;
        }
        int had = plans[plan].count;
        plans[plan].count = 0;
        return had;
    }

    public int ofTurn(int plan, int turn, int what) {
        if (!isPlan(plan) || !within(turn, 0, plans[plan].count - 1)) {
            return MASKED + UNKNOWN;
        }
        if (!within(what, 0, 1)) {
            return MASKED + OUTSIDE;
        }
        return what == 0 ? plans[plan].minutes[turn] : plans[plan].courses[turn];
    }

    public int course(int plan, int minute) {
        if (!isPlan(plan)) {
            return MASKED + UNKNOWN;
        }
        if (!within(minute, 0, LAST_MINUTE)) {
            return MASKED + OUTSIDE;
        }
        return plans[plan].heading(minute % HOUR, 0);
    }

    public long ground(int plan, int n, int what) {
        if (!isPlan(plan)) {
            return LOST + UNKNOWN;
        }
        if (!within(n, 0, LAST_MINUTE) || !within(what, 0, 1)) {
            return LOST + OUTSIDE;
        }
        return plans[plan].gain(n, what);
    }

    public int steer(int plan) {
        if (!isPlan(plan)) {
            return UNKNOWN;
        }
        int was = steered;
        steered = plan;
        return was;
    }

    public int ship(int x, int y, int speed, int clock) {
        if (!isStart(x, y, speed) || !within(clock, -WORST_CLOCK, WORST_CLOCK)) {
            return OUTSIDE;
        }
        if (fleet.count >= MOST_SHIPS) {
            return FULL;
        }
        fleet.ships[fleet.count].set(x, y, speed, clock);
        fleet.count++;
        return fleet.count - 1;
    }

    public int miss(int ship, int hour, int turn) {
        if (!isShip(ship)) {
            return UNKNOWN;
        }
        if (!within(hour, 0, HOURS - 1) || !within(turn, 0, MOST_TURNS - 1)) {
            return OUTSIDE;
        }
        if (fleet.misses >= MOST_MISSES) {
            return FULL;
        }
        int[] missed = fleet.ships[ship].missed;
        if ((missed[hour] >> turn & 1) == 1) {
            return NO;
        }
        missed[hour] |= 1 << turn;
        fleet.misses++;
        return fleet.misses;
    }

    public int fog(int from, int to) {
        if (!within(from, 0, LAST_MINUTE) || !within(to, from, LAST_MINUTE)) {
            return OUTSIDE;
        }
        weather.from = from;
        weather.to = to;
        return 1;
    }

    public long place(int ship, int minute, int what) {
        if (!isShip(ship)) {
            return LOST + UNKNOWN;
        }
        if (!within(minute, 0, LAST_MINUTE) || !within(what, 0, 1)) {
            return LOST + OUTSIDE;
        }
        Ship s = fleet.ships[ship];
        s.begin();
        for (int t = 0; t < minute; t++) {
            s.move(plans[steered], weather, t);
        }
        return what == 0 ? s.nowX : s.nowY;
    }

    public long nearest(int n, int what) {
        if (!within(n, 0, LAST_MINUTE) || !within(what, 0, 3)) {
            return LOST + OUTSIDE;
        }
        if (fleet.count < 2) {
            return LOST + STATE;
        }
        fleet.findNearest(plans[steered], weather, n);
        switch (what) {
            case 0:
                return fleet.leastSquare;
            case 1:
                return fleet.leastMinute;
            case 2:
                return fleet.leastFirst;
            default:
                return fleet.leastSecond;
        }
    }

    public int close(int n, int d) {
        if (!within(n, 0, LAST_MINUTE) || !within(d, 0, WIDEST_GAP)) {
            return OUTSIDE;
        }
        return fleet.minutesNearer(plans[steered], weather, n, d);
    }

    // ---- 2 the lurker

    public int centre(int speed) {
        if (!within(speed, 1, FASTEST)) {
            return OUTSIDE;
        }
        int was = centreSpeed;
        centreSpeed = speed;
        return was;
    }

    public int lurk(int x, int y, int speed, int reach) {
        if (!within(x, -LURK_FIELD, LURK_FIELD) || !within(y, -LURK_FIELD, LURK_FIELD)
                || !within(speed, 1, FASTEST) || !within(reach, 0, LONGEST_REACH)) {
            return OUTSIDE;
        }
        lurker.x = x;
        lurker.y = y;
        lurker.speed = speed;
        lurker.reach = reach;
        return 1;
    }

    public int comes(int plan) {
        if (!isPlan(plan)) {
            return UNKNOWN;
        }
        for (int t = 0; t <= LAST_MINUTE; t++) {
            long x = centreSpeed * plans[plan].gain(t, 0);
            long y = centreSpeed * plans[plan].gain(t, 1);
            if (lurker.canBeWithin(x, y, t, lurker.reach)) {
                return t;
            }
        }
        return NONE;
    }

    public int gets(int plan, int t) {
        if (!isPlan(plan)) {
            return UNKNOWN;
        }
        if (!within(t, 0, LAST_MINUTE)) {
            return OUTSIDE;
        }
        lurker.waitAt(plans, centreSpeed, t);
        return lurker.taken[plan];
    }

    public int worst(int t, int a, int b, int c, int d, int what) {
        if (!within(t, 0, LAST_MINUTE) || !isWeight(a) || !isWeight(b) || !isWeight(c)
                || !isWeight(d) || !within(what, 0, 1)) {
            return OUTSIDE;
        }
        lurker.waitAt(plans, centreSpeed, t);
        lurker.choose(a, b, c, d);
        return what == 0 ? lurker.chosenSum : lurker.chosenPlan;
    }

    public int mix(int t, int n, int what) {
        if (!within(t, 0, LAST_MINUTE) || !within(n, 1, LARGEST_MIX) || !within(what, 0, PLANS)) {
            return OUTSIDE;
        }
        lurker.waitAt(plans, centreSpeed, t);
        lurker.findMix(n);
        return what == PLANS ? lurker.mixedSum : lurker.mixed[what];
    }

    // ---- 3 escorts

    public int post(int x, int y, int range) {
        if (!within(x, -POST_FIELD, POST_FIELD) || !within(y, -POST_FIELD, POST_FIELD)
                || !within(range, 1, LONGEST_RANGE)) {
            return OUTSIDE;
        }
        if (screen.count >= MOST_POSTS) {
            return FULL;
        }
        screen.add(x, y, range);
        return screen.count - 1;
    }

    public int seen(int posts, int d) {
        if (!within(posts, 0, (1 << screen.count) - 1) || !within(d, 1, WIDEST_RING)) {
            return OUTSIDE;
        }
        screen.watchRing(d);
        return screen.pointsSeen(posts);
    }

    public int best(int k, int d) {
        if (!within(k, 0, screen.count) || !within(d, 1, WIDEST_RING)) {
            return OUTSIDE;
        }
        screen.watchRing(d);
        return screen.bestPosts(k);
    }

    // ---- 4 routes

    public int danger(int x, int y, int v) {
        if (!within(x, 0, SIDE - 1) || !within(y, 0, SIDE - 1)) {
            return MASKED + UNKNOWN;
        }
        if (!within(v, LAND, MOST_DANGER)) {
            return MASKED + OUTSIDE;
        }
        int was = dangers[SIDE * y + x];
        dangers[SIDE * y + x] = v;
        return was;
    }

    public int route(int from, int to, int days, int fuel) {
        if (!isCell(from) || !isCell(to)) {
            return UNKNOWN;
        }
        if (!isVoyage(days, fuel)) {
            return OUTSIDE;
        }
        Pilot p = readyPilot();
        if (!p.findAlone(from, to, days, fuel)) {
            return NO;
        }
        p.write(routeA, 0, 0);
        routeA.dayLimit = days;
        routeA.fuelLimit = fuel;
        return p.foundDanger();
    }

    public int apart(int from, int to, int days, int fuel, int e) {
        if (!isCell(from) || !isCell(to)) {
            return UNKNOWN;
        }
        if (!isVoyage(days, fuel) || !within(e, 0, WIDEST_APART)) {
            return OUTSIDE;
        }
        if (!routeA.found) {
            return STATE;
        }
        Pilot p = readyPilot();
        if (!p.findApart(from, to, days, fuel, e)) {
            return NO;
        }
        p.write(routeB, 0, 0);
        return p.foundDanger();
    }

    public int cell(int which, int i) {
        if (!within(which, 0, 1) || !within(i, -2, MOST_DAYS)) {
            return OUTSIDE;
        }
        Voyage v = which == 0 ? routeA : routeB;
        if (!v.found) {
            return NONE;
        }
        if (i == -1) {
            return v.days;
        }
        return i == -2 ? v.fuel : v.cellOn(i);
    }

    public int word(int day, int to) {
        if (!isCell(to)) {
            return UNKNOWN;
        }
        // Without ROUTE A nothing is known of its days but that they are no more than these.
        if (!within(day, 0, MOST_DAYS)) {
            return OUTSIDE;
        }
        if (!routeA.found) {
            return STATE;
        }
        if (day > routeA.days) {
            return OUTSIDE;
        }
        int used = routeA.fuelTill(day);
        Pilot p = readyPilot();
        if (!p.findAlone(routeA.cellOn(day), to, routeA.dayLimit - day, routeA.fuelLimit - used)) {
            return NO;
        }
        p.write(routeA, day, used);
        return p.foundDanger();
    }

    // ---- 5 logs

    public int sight(int minute, int x, int y) {
        if (!within(minute, 0, LAST_MINUTE) || !within(x, -SIGHT_FIELD, SIGHT_FIELD)
                || !within(y, -SIGHT_FIELD, SIGHT_FIELD)) {
            return OUTSIDE;
        }
        if (log.count >= MOST_SIGHTS) {
            return FULL;
        }
        log.add(minute, x, y);
        return log.count;
    }

    public int forget() {
        int had = log.count;
        log.count = 0;
        return had;
    }

    public long told(int x, int y, int speed, int what) {
        if (!isStart(x, y, speed) || !within(what, 0, 3)) {
            return LOST + OUTSIDE;
        }
        if (log.count == 0) {
            return LOST + STATE;
        }
        log.ghost.set(x, y, speed, 0);
        log.explain(plans[steered], weather);
        switch (what) {
            case 0:
                return log.misfit;
            case 1:
                return log.clock;
            case 2:
                return log.hour;
            default:
                return log.turn;
        }
    }

    public int about(int what) {
        switch (what) {
            case 0:
                return steered;
            case 1:
                return fleet.count;
            case 2:
                return fleet.misses;
            case 3:
                return weather.from;
            case 4:
                return weather.to;
            case 5:
                return screen.count;
            case 6:
                return landCells();
            case 7:
                return log.count;
            default:
                return isPlan(what - 10L) ? plans[what - 10].count : OUTSIDE;
        }
    }

    // ---- what the calls share

    private static boolean within(int v, int least, int most) {
        return v >= least && v <= most;
    }

    /** A long, so that a number far below 0 does not wrap round to a PLAN. */
    private static boolean isPlan(long plan) {
        return plan >= 0 && plan < PLANS;
    }

    private boolean isShip(int ship) {
        return within(ship, 0, fleet.count - 1);
    }

    private static boolean isStart(int x, int y, int speed) {
        return within(x, -SHIP_FIELD, SHIP_FIELD) && within(y, -SHIP_FIELD, SHIP_FIELD)
                && within(speed, 1, FASTEST);
    }

    private static boolean isWeight(int w) {
        return within(w, 0, HEAVIEST);
    }

    private static boolean isCell(int cell) {
        return within(cell, 0, CELLS - 1);
    }

    private static boolean isVoyage(int days, int fuel) {
        return within(days, 0, MOST_DAYS) && within(fuel, 0, MOST_FUEL);
    }

    private int landCells() {
        int n = 0;
        for (int i = 0; i < CELLS; i++) {
            if (dangers[i] == LAND) {
                n++;
            }
        }
        return n;
    }

    /** Made late: its rows are the largest of all, and many rooms never ask for a route. */
    private Pilot readyPilot() {
        if (pilot == null) {
            pilot = new Pilot(dangers, routeA);
        }
        return pilot;
    }

    /** What a COURSE gains in a minute at SPEED 1, ahead (axis 0) or across (axis 1). */
    private static int pace(int course, int axis) {
        int size = Math.min(Math.abs(course), FARTHEST_COURSE);
        if (axis == 0) {
            return AHEAD[size];
        }
        return course < 0 ? -ACROSS[size] : ACROSS[size];
    }

    private static long squareOf(long dx, long dy) {
        return dx * dx + dy * dy;
    }

    /** TURNS in order of their MINUTES. */
    private static final class Plan {
        final int[] minutes = new int[MOST_TURNS];
        final int[] courses = new int[MOST_TURNS];
        int count = 0;

        boolean turnsAt(int minute) {
            for (int i = 0; i < count; i++) {
                if (minutes[i] == minute) {
                    return true;
                }
            }
            return false;
        }

        /** The caller has looked that there is room. */
        void insert(int minute, int course) {
            int at = count;
            for (; at > 0 && minutes[at - 1] > minute; at--) {
                minutes[at] = minutes[at - 1];
                courses[at] = courses[at - 1];
            }
            minutes[at] = minute;
            courses[at] = course;
            count++;
        }

        /** COURSE in a minute of an hour, as if the TURNS whose bits are in missed were none. */
        int heading(int minuteOfHour, int missed) {
            int now = 0;
            for (int i = 0; i < count && minutes[i] <= minuteOfHour; i++) {
                if ((missed >> i & 1) == 0) {
                    now = courses[i];
                }
            }
            return now;
        }

        int legEnd(int turn) {
            return turn + 1 < count ? minutes[turn + 1] : HOUR;
        }

        int courseAhead(int turn) {
            return turn > 0 ? courses[turn - 1] : 0;
        }

        /** GROUND: that of COURSE 0 all the time, put right for each leg. */
        long gain(int n, int axis) {
            int base = pace(0, axis);
            long all = (long) base * n;
            for (int i = 0; i < count; i++) {
                int length = legEnd(i) - minutes[i];
                int inLastHour = Math.max(0, Math.min(n % HOUR - minutes[i], length));
                long onLeg = (long) (n / HOUR) * length + inLastHour;
                all += onLeg * (pace(courses[i], axis) - base);
            }
            return all;
        }
    }

    /** Minutes by the right clock in which the COURSE of all ships is 0. */
    private static final class Fog {
        int from = 0;
        int to = 0;

        boolean hides(int minute) {
            return minute >= from && minute < to;
        }

        int clearMinutes(int start, int end) {
            int all = Math.max(0, end - start);
            return all - Math.max(0, Math.min(end, to) - Math.max(start, from));
        }
    }

    private static final class Ship {
        int x = 0;
        int y = 0;
        int speed = 1;
        int clock = 0;
        /** By hours of its own clock: bits of the TURNS that it MISSES. */
        final int[] missed = new int[HOURS];
        long nowX = 0;
        long nowY = 0;

        void set(int startX, int startY, int itsSpeed, int itsClock) {
            x = startX;
            y = startY;
            speed = itsSpeed;
            clock = itsClock;
        }

        void begin() {
            nowX = x;
            nowY = y;
        }

        void move(Plan plan, Fog fog, int minute) {
            int course = fog.hides(minute) ? 0 : heading(plan, minute + clock);
            nowX += speed * pace(course, 0);
            nowY += speed * pace(course, 1);
        }

        private int heading(Plan plan, int reckoned) {
            if (reckoned < 0) {
                return 0;
            }
            int hour = reckoned / HOUR;
            return plan.heading(reckoned % HOUR, hour < HOURS ? missed[hour] : 0);
        }
    }

    private static final class Fleet {
        final Ship[] ships = new Ship[MOST_SHIPS];
        int count = 0;
        int misses = 0;
        int pairFirst = 0;
        int pairSecond = 0;
        long leastSquare = 0;
        int leastMinute = 0;
        int leastFirst = 0;
        int leastSecond = 0;

        Fleet() {
            for (int i = 0; i < MOST_SHIPS; i++) {
                ships[i] = new Ship();
            }
        }

        void findNearest(Plan plan, Fog fog, int n) {
            leastSquare = BEYOND_ALL;
            beginAll();
            for (int t = 0; t <= n; t++) {
                long square = squareOfPair();
                if (square < leastSquare) {
                    leastSquare = square;
                    leastMinute = t;
                    leastFirst = pairFirst;
                    leastSecond = pairSecond;
                }
                moveAll(plan, fog, t);
            }
        }

        int minutesNearer(Plan plan, Fog fog, int n, int d) {
            long limit = (long) d * d;
            int minutes = 0;
            beginAll();
            for (int t = 0; t <= n; t++) {
                if (squareOfPair() < limit) {
                    minutes++;
                }
                moveAll(plan, fog, t);
            }
            return minutes;
        }

        private void beginAll() {
            for (int i = 0; i < count; i++) {
                ships[i].begin();
            }
        }

        private void moveAll(Plan plan, Fog fog, int minute) {
            for (int i = 0; i < count; i++) {
                ships[i].move(plan, fog, minute);
            }
        }

        /** Of the pair that is nearest now; beyond all squares if there are not two ships. */
        private long squareOfPair() {
            long least = BEYOND_ALL;
            for (int i = 0; i < count; i++) {
                for (int j = i + 1; j < count; j++) {
                    long square = squareOf(ships[i].nowX - ships[j].nowX,
                            ships[i].nowY - ships[j].nowY);
                    if (square < least) {
                        least = square;
                        pairFirst = i;
                        pairSecond = j;
                    }
                }
            }
            return least;
        }
    }

    private static final class Lurker {
        int x = 300000;
        int y = 0;
        int speed = 5;
        int reach = 20000;
        final long[] centreX = new long[PLANS];
        final long[] centreY = new long[PLANS];
        /** Bits of what it GETS at each PLAN's place; never 0 where it can be. */
        final int[] taken = new int[PLANS];
        int chosenSum = 0;
        int chosenPlan = NONE;
        final int[] mixed = new int[PLANS];
        int mixedSum = 0;

        boolean canBeWithin(long placeX, long placeY, int t, int more) {
            long way = (long) A_MINUTE * speed * t + more;
            return squareOf(placeX - x, placeY - y) <= way * way;
        }

        void waitAt(Plan[] plans, int centreSpeed, int t) {
            for (int i = 0; i < PLANS; i++) {
                centreX[i] = centreSpeed * plans[i].gain(t, 0);
                centreY[i] = centreSpeed * plans[i].gain(t, 1);
            }
            for (int i = 0; i < PLANS; i++) {
                taken[i] = canBeWithin(centreX[i], centreY[i], t, 0) ? plansInReach(i) : 0;
            }
        }

        private int plansInReach(int place) {
            long limit = (long) reach * reach;
            int bits = 0;
            for (int i = 0; i < PLANS; i++) {
                if (squareOf(centreX[i] - centreX[place], centreY[i] - centreY[place]) <= limit) {
                    bits |= 1 << i;
                }
            }
            return bits;
        }

        void choose(int a, int b, int c, int d) {
            chosenSum = 0;
            chosenPlan = NONE;
            for (int i = 0; i < PLANS; i++) {
                int bits = taken[i];
                int sum = a * (bits & 1) + b * (bits >> 1 & 1) + c * (bits >> 2 & 1)
                        + d * (bits >> 3 & 1);
                if (bits != 0 && (chosenPlan == NONE || sum > chosenSum)) {
                    chosenSum = sum;
                    chosenPlan = i;
                }
            }
        }

        void findMix(int n) {
            // One more than the greatest WORST there can be: all the WEIGHTS together.
            mixedSum = n + 1;
            for (int a = 0; a <= n; a++) {
                for (int b = 0; b <= n - a; b++) {
                    for (int c = 0; c <= n - a - b; c++) {
                        considerMix(a, b, c, n - a - b - c);
                    }
                }
            }
        }

        private void considerMix(int a, int b, int c, int d) {
            choose(a, b, c, d);
            if (chosenSum < mixedSum) {
                mixedSum = chosenSum;
                mixed[0] = a;
                mixed[1] = b;
                mixed[2] = c;
                mixed[3] = d;
            }
        }
    }

    /** ESCORTS' POSTS, and of the RING looked at last: which POSTS see each point. */
    private static final class Screen {
        private final int[] xs = new int[MOST_POSTS];
        private final int[] ys = new int[MOST_POSTS];
        private final int[] ranges = new int[MOST_POSTS];
        int count = 0;
        private final int[] watchers = new int[8 * WIDEST_RING];
        private int points = 0;

        /** The caller has looked that there is room. */
        void add(int x, int y, int range) {
            xs[count] = x;
            ys[count] = y;
            ranges[count] = range;
            count++;
        }

        void watchRing(int d) {
            points = 0;
            // Each of the four sides leaves out the corner at which the next one begins.
            for (int i = -d; i < d; i++) {
                watchPoint(i, -d);
                watchPoint(d, i);
                watchPoint(-i, d);
                watchPoint(-d, -i);
            }
        }

        private void watchPoint(int x, int y) {
            int bits = 0;
            for (int i = 0; i < count; i++) {
                if (squareOf(x - xs[i], y - ys[i]) <= (long) ranges[i] * ranges[i]) {
                    bits |= 1 << i;
                }
            }
            watchers[points] = bits;
            points++;
        }

        int pointsSeen(int posts) {
            int n = 0;
            for (int i = 0; i < points; i++) {
                if ((watchers[i] & posts) != 0) {
                    n++;
                }
            }
            return n;
        }

        int bestPosts(int k) {
            int best = 0;
            int most = -1;
            for (int posts = 0; posts < 1 << count; posts++) {
                if (Integer.bitCount(posts) == k) {
                    int n = pointsSeen(posts);
                    if (n > most) {
                        most = n;
                        best = posts;
                    }
                }
            }
            return best;
        }
    }

    /** A ROUTE that was found, day by day, and with what days and FUEL it was asked for. */
    private static final class Voyage {
        boolean found = false;
        final int[] cells = new int[MOST_DAYS + 1];
        int days = 0;
        int fuel = 0;
        int dayLimit = 0;
        int fuelLimit = 0;

        int cellOn(int day) {
            return cells[day < days ? day : days];
        }

        int fuelTill(int day) {
            int used = 0;
            for (int i = 1; i <= day && i <= days; i++) {
                if (cells[i] != cells[i - 1]) {
                    used++;
                }
            }
            return used;
        }
    }

    /**
     * Finds ROUTES backward from their ends. The days that are left are split in two: "going" days,
     * on which it may go (or stay), and "idle" days, on which FUEL lets it only stay. So both the
     * days and the FUEL that are left are known, with far fewer pairs than days times FUEL.
     */
    private static final class Pilot {
        /** A worth holds danger, days, fuel in one number, so that they compare in that order. */
        private static final int DANGER_UNIT = 4096;
        private static final int DAY_UNIT = 64;
        private static final int NEVER = 1 << 29;
        /** (going + 1) * (idle + 1) is greatest when 40 days are halved. */
        private static final int MOST_ROWS = 21 * 21;
        /** A move needs 4 bits: 16 of them in a long, so that the rows stay small. */
        private static final int MOVES_IN_LONG = 16;
        private static final int LONGS_IN_ROW = CELLS / MOVES_IN_LONG;
        /** Moves by numbers: staying, then the CELLS beside in the order of their numbers. */
        private static final int[] STEP_X = {0, -1, 0, 1, -1, 1, -1, 0, 1};
        private static final int[] STEP_Y = {0, -1, -1, -1, 0, 0, 1, 1, 1};

        private final int[] dangers;
        private final Voyage other;
        private final int[] worths = new int[(MOST_DAYS + 1) * CELLS];
        private final long[] moves = new long[MOST_ROWS * LONGS_IN_ROW];
        private int from = 0;
        private int to = 0;
        private int going = 0;
        private int idle = 0;
        private int gap = ALONE;
        private int safeFrom = 0;
        private int found = NEVER;

        Pilot(int[] map, Voyage routeToKeepFrom) {
            dangers = map;
            other = routeToKeepFrom;
        }

        int foundDanger() {
            return found / DANGER_UNIT;
        }

        private int foundFuel() {
            return found % DAY_UNIT;
        }

        boolean findAlone(int start, int end, int days, int fuel) {
            from = start;
            to = end;
            gap = ALONE;
            safeFrom = 0;
            // Alone, leaving out a day that it stays is always better: days beyond FUEL are no use.
            search(Math.min(days, fuel), 0);
            return found < NEVER;
        }

        boolean findApart(int start, int end, int days, int fuel, int e) {
            from = start;
            to = end;
            gap = e;
            safeFrom = MOST_DAYS + 2;
            for (int day = MOST_DAYS + 1; day >= 0 && isApart(to, day); day--) {
                safeFrom = day;
            }
            search(days, 0);
            // What is best with FUEL enough is best too with less, if it needs no more than that.
            if (found < NEVER && foundFuel() > fuel) {
                search(fuel, days - fuel);
            }
            return found < NEVER;
        }

        private void search(int goingDays, int idleDays) {
            going = Math.max(0, Math.min(goingDays, MOST_DAYS));
            idle = Math.max(0, Math.min(idleDays, MOST_DAYS - going));
            for (int at = 0; at < (going + 1) * CELLS; at++) {
                worths[at] = NEVER;
            }
            for (int i = 0; i <= idle; i++) {
                for (int g = 0; g <= going; g++) {
                    weighRow(g, i);
                }
            }
            found = worths[going * CELLS + from];
        }

        /** Only CELLS to which it can have come, and from which it can still come to the end. */
        private void weighRow(int g, int i) {
            int gone = going - g;
            int firstX = Math.max(0, Math.max(from % SIDE - gone, to % SIDE - g));
            int lastX = Math.min(SIDE - 1, Math.min(from % SIDE + gone, to % SIDE + g));
            int firstY = Math.max(0, Math.max(from / SIDE - gone, to / SIDE - g));
            int lastY = Math.min(SIDE - 1, Math.min(from / SIDE + gone, to / SIDE + g));
            for (int y = firstY; y <= lastY; y++) {
                for (int x = firstX; x <= lastX; x++) {
                    int at = g * CELLS + SIDE * y + x;
                    worths[at] = weigh(g, i, x, y);
                }
            }
        }

        private int weigh(int g, int i, int x, int y) {
            int cell = SIDE * y + x;
            int day = dayOf(g, i);
            if (dangers[cell] == LAND || !isApart(cell, day)) {
                return NEVER;
            }
            if (endsAt(cell, day)) {
                return 0;
            }
            int least = worthOfStaying(g, i, cell);
            int move = 0;
            for (int m = 1; m < STEP_X.length && g > 0; m++) {
                int worth = worthOfGoing(g - 1, x + STEP_X[m], y + STEP_Y[m]);
                if (worth < least) {
                    least = worth;
                    move = m;
                }
            }
            keepMove(g, i, cell, move);
            return least;
        }

        /** The CELL's own worth is still the one with an idle day less: one row serves for all. */
        private int worthOfStaying(int g, int i, int cell) {
            int rest = NEVER;
            if (i > 0) {
                rest = worths[g * CELLS + cell];
            } else if (g > 0) {
                rest = worths[(g - 1) * CELLS + cell];
            }
            return rest < NEVER ? rest + dangers[cell] * DANGER_UNIT + DAY_UNIT : NEVER;
        }

        private int worthOfGoing(int goingLeft, int x, int y) {
            if (x < 0 || x >= SIDE || y < 0 || y >= SIDE) {
                return NEVER;
            }
            int cell = SIDE * y + x;
            int rest = worths[goingLeft * CELLS + cell];
            return rest < NEVER ? rest + dangers[cell] * DANGER_UNIT + DAY_UNIT + 1 : NEVER;
        }

        private int dayOf(int g, int i) {
            return going + idle - g - i;
        }

        private boolean endsAt(int cell, int day) {
            return cell == to && day >= safeFrom;
        }

        private boolean isApart(int cell, int day) {
            if (gap == ALONE) {
                return true;
            }
            return (day < 1 || isBeyondGap(cell, other.cellOn(day - 1)))
                    && isBeyondGap(cell, other.cellOn(day))
                    && isBeyondGap(cell, other.cellOn(day + 1));
        }

        private boolean isBeyondGap(int a, int b) {
            int dx = a % SIDE - b % SIDE;
            int dy = a / SIDE - b / SIDE;
            return dx > gap || dx < -gap || dy > gap || dy < -gap;
        }

        private int longOf(int g, int i, int cell) {
            return (i * (going + 1) + g) * LONGS_IN_ROW + cell / MOVES_IN_LONG;
        }

        private static int shiftOf(int cell) {
            return cell % MOVES_IN_LONG * 4;
        }

        private void keepMove(int g, int i, int cell, int move) {
            int at = longOf(g, i, cell);
            long others = moves[at] & ~(15L << shiftOf(cell));
            moves[at] = others | (long) move << shiftOf(cell);
        }

        private int keptMove(int g, int i, int cell) {
            return (int) (moves[longOf(g, i, cell)] >> shiftOf(cell) & 15L);
        }

        /** Writes what was found from a day on; what the voyage has up to that day stays. */
        void write(Voyage v, int firstDay, int fuelTillThen) {
            int cell = from;
            int g = going;
            int i = idle;
            int day = firstDay;
            v.cells[day] = cell;
            while (day < MOST_DAYS && g + i > 0 && !endsAt(cell, dayOf(g, i))) {
                int move = Math.min(keptMove(g, i, cell), STEP_X.length - 1);
                if (move == 0 && i > 0) {
                    i--;
                } else {
                    g--;
                }
                cell += SIDE * STEP_Y[move] + STEP_X[move];
                day++;
                v.cells[day] = cell;
            }
            v.days = day;
            v.fuel = fuelTillThen + foundFuel();
            v.found = true;
        }
    }

    /** SIGHTS of one ship, and what is TOLD by them. */
    private static final class Log {
        /** By size, below 0 ahead: the first of several that fit alike is the one to be TOLD. */
        private static final int[] CLOCKS = {0, -1, 1, -2, 2, -3, 3, -4, 4, -5, 5};

        private final int[] minutes = new int[MOST_SIGHTS];
        private final int[] xs = new int[MOST_SIGHTS];
        private final int[] ys = new int[MOST_SIGHTS];
        int count = 0;
        /** The ship that is thought of; its way without a MISS by the CLOCK now tried. */
        final Ship ghost = new Ship();
        private final long[] wayX = new long[LAST_MINUTE + 1];
        private final long[] wayY = new long[LAST_MINUTE + 1];
        long misfit = 0;
        int clock = 0;
        int hour = NONE;
        int turn = NONE;

        /** The caller has looked that there is room. */
        void add(int minute, int x, int y) {
            minutes[count] = minute;
            xs[count] = x;
            ys[count] = y;
            count++;
        }

        void explain(Plan plan, Fog fog) {
            misfit = BEYOND_ALL;
            for (int i = 0; i < CLOCKS.length; i++) {
                ghost.clock = CLOCKS[i];
                goTheWay(plan, fog);
                consider(misfitLess(fog, 0, 0, 0, 0), NONE, NONE);
                for (int h = 0; h < HOURS; h++) {
                    considerMisses(plan, fog, h);
                }
            }
        }

        private void goTheWay(Plan plan, Fog fog) {
            ghost.begin();
            for (int t = 0; t <= LAST_MINUTE; t++) {
                wayX[t] = ghost.nowX;
                wayY[t] = ghost.nowY;
                ghost.move(plan, fog, t);
            }
        }

        /** A missed TURN changes one leg alone: there the COURSE ahead of it is kept. */
        private void considerMisses(Plan plan, Fog fog, int h) {
            int start = HOUR * h - ghost.clock;
            for (int k = 0; k < plan.count; k++) {
                int kept = plan.courseAhead(k);
                int dx = ghost.speed * (pace(kept, 0) - pace(plan.courses[k], 0));
                int dy = ghost.speed * (pace(kept, 1) - pace(plan.courses[k], 1));
                int from = Math.max(0, start + plan.minutes[k]);
                consider(misfitLess(fog, from, start + plan.legEnd(k), dx, dy), h, k);
            }
        }

        /** MISFIT if each clear minute of a leg brought dx and dy more. */
        private long misfitLess(Fog fog, int from, int end, int dx, int dy) {
            long sum = 0;
            for (int i = 0; i < count; i++) {
                int t = minutes[i];
                long changed = fog.clearMinutes(from, Math.min(end, t));
                sum += Math.abs(wayX[t] + changed * dx - xs[i]);
                sum += Math.abs(wayY[t] + changed * dy - ys[i]);
            }
            return sum;
        }

        private void consider(long sum, int h, int k) {
            if (sum < misfit) {
                misfit = sum;
                clock = ghost.clock;
                hour = h;
                turn = k;
            }
        }
    }
}
