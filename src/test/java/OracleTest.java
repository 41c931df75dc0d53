import java.lang.reflect.Method;
import java.util.Arrays;
import java.util.HashMap;
import java.util.Map;
import java.util.Random;

/** Long runs of calls by chance (always the same ones), each answer compared with PlainRoom's. */
public final class OracleTest {
    /** From what range each argument is mostly taken: least, most, least, most .. */
    private static final Map<String, int[]> RANGES = new HashMap<>();

    static {
        range("turn", 0, 3, 0, 59, -4, 4);
        range("clear", 0, 3);
        range("ofTurn", 0, 3, 0, 5, 0, 1);
        range("course", 0, 3, 0, 600);
        range("ground", 0, 3, 0, 600, 0, 1);
        range("steer", 0, 3);
        range("ship", -20000, 20000, -20000, 20000, 8, 12, -5, 5);
        range("miss", 0, 8, 0, 9, 0, 11);
        range("fog", 0, 300, 100, 600);
        range("place", 0, 8, 0, 600, 0, 1);
        range("nearest", 0, 600, 0, 3);
        range("close", 0, 600, 0, 40000);
        range("centre", 1, 20);
        range("lurk", -500000, 500000, -500000, 500000, 1, 20, 0, 200000);
        range("comes", 0, 3);
        range("gets", 0, 3, 0, 120);
        range("worst", 0, 120, 0, 20, 0, 20, 0, 20, 0, 20, 0, 1);
        range("mix", 0, 120, 1, 12, 0, 4);
        range("post", -50, 50, -50, 50, 1, 40);
        range("seen", 0, 63, 1, 50);
        range("best", 0, 5, 1, 50);
        range("danger", 0, 11, 0, 11, -1, 99);
        range("route", 0, 143, 0, 143, 0, 20, 0, 20);
        range("apart", 0, 143, 0, 143, 0, 20, 0, 20, 0, 5);
        range("cell", 0, 1, -2, 40);
        range("word", 0, 10, 0, 143);
        range("sight", 0, 600, -200000, 8000000, -2000000, 2000000);
        range("forget");
        range("told", -20000, 20000, -20000, 20000, 8, 12, 0, 3);
        range("about", 0, 13);
    }

    private static final String[][] PARTS = {
        {"turn", "turn", "turn", "clear", "ofTurn", "course", "ground", "steer", "ship", "ship",
            "miss", "miss", "fog", "place", "place", "nearest", "close", "about"},
        {"turn", "turn", "steer", "centre", "lurk", "comes", "gets", "gets", "worst", "mix", "mix"},
        {"post", "post", "seen", "best", "about"},
        {"danger", "danger", "danger", "route", "apart", "apart", "cell", "word", "word", "about"},
        {"turn", "turn", "steer", "fog", "sight", "sight", "sight", "forget", "told", "about"},
    };
    private static final int[] RUNS = {60, 60, 60, 60, 40};
    private static final int[] CALLS = {300, 200, 100, 120, 60};

    private static final int[] EDGES = {Integer.MIN_VALUE, Integer.MAX_VALUE, -2147483638, -101, -6,
        -5, -4, -3, -2, -1, 0, 1, 2, 3, 4, 5, 6, 9, 10, 11, 12, 13, 14, 20, 21, 39, 40, 41, 50, 51,
        59, 60, 99, 100, 143, 144, 599, 600, 601, 100000, 100001, 200000, 200001, 1000000, 1000001,
        2000000, 2000001, -2000000, -2000001, 10000000, 10000001, -10000000, -10000001, -100000,
        -100001};

    private final Random chance;
    private final Check check;
    private final Map<String, Method> own = new HashMap<>();
    private final Map<String, Method> plain = new HashMap<>();
    private ConvoyRoom room;
    private PlainRoom model;
    private String run;

    private OracleTest(long seed, Check check) {
        this.chance = new Random(seed);
        this.check = check;
        for (Method m : ConvoyRoom.class.getMethods()) {
            own.put(m.getName(), m);
        }
        for (Method m : PlainRoom.class.getDeclaredMethods()) {
            if (java.lang.reflect.Modifier.isPublic(m.getModifiers())) {
                plain.put(m.getName(), m);
            }
        }
    }

    private static void range(String name, int... ends) {
        RANGES.put(name, ends);
    }

    private static Object[] boxed(int[] args) {
        return Arrays.stream(args).boxed().toArray();
    }

    private long both(String name, int... args) {
        try {
            long want = ((Number) plain.get(name).invoke(model, boxed(args))).longValue();
            long got = ((Number) own.get(name).invoke(room, boxed(args))).longValue();
            check.due(run + " " + name + Arrays.toString(args), got, want);
            return want;
        } catch (ReflectiveOperationException e) {
            throw new IllegalStateException(name + Arrays.toString(args), e);
        }
    }

    private int[] arguments(String name) {
        int[] ends = RANGES.get(name);
        int[] args = new int[ends.length / 2];
        for (int i = 0; i < args.length; i++) {
            args[i] = chance.nextInt(40) == 0 ? EDGES[chance.nextInt(EDGES.length)]
                    : ends[2 * i] + chance.nextInt(ends[2 * i + 1] - ends[2 * i] + 1);
        }
        return args;
    }

    private void begin(String name) {
        run = name;
        room = new ConvoyRoom();
        model = new PlainRoom();
    }

    private void runPart(int part, int number) {
        begin("part " + (part + 1) + " run " + number);
        for (int i = 0; i < CALLS[part]; i++) {
            String name = PARTS[part][chance.nextInt(PARTS[part].length)];
            both(name, arguments(name));
            if (name.equals("apart") || name.equals("route") || name.equals("word")) {
                wholeRoutes();
            }
        }
    }

    private void wholeRoutes() {
        for (int i = -2; i <= 40; i++) {
            both("cell", 0, i);
            both("cell", 1, i);
        }
    }

    /** A map by chance: few dangers make many ROUTES alike, many make them wind. */
    private void drawMap() {
        int most = new int[] {0, 1, 2, 9, 99}[chance.nextInt(5)];
        int land = new int[] {1, 3, 10}[chance.nextInt(3)];
        for (int c = 0; c < 144; c++) {
            int v = chance.nextInt(10) < land && chance.nextInt(3) == 0 ? -1
                    : chance.nextInt(most + 1);
            both("danger", c % 12, c / 12, v);
        }
    }

    /** Short ways so that A and B meet, with little FUEL so that B must stay and wait. */
    private void runRoutes(int number) {
        begin("routes run " + number);
        drawMap();
        for (int i = 0; i < 10; i++) {
            int from = chance.nextInt(144);
            int far = 1 + chance.nextInt(6);
            both("route", from, near(from, far), chance.nextInt(12), chance.nextInt(12));
            for (int j = 0; j < 4; j++) {
                int start = near(from, far + 3);
                tightApart(start, near(start, far), 2 + chance.nextInt(14), chance.nextInt(3));
            }
            both("danger", chance.nextInt(12), chance.nextInt(12), chance.nextInt(3) - 1);
            both("word", chance.nextInt(5), near(from, 6));
            both("word", chance.nextInt(5), near(from, 6));
            wholeRoutes();
        }
    }

    /** Less and less FUEL, and days cut down to what was needed, and one less. */
    private void tightApart(int from, int to, int days, int e) {
        int fuel = 40;
        for (int i = 0; i < 4 && both("apart", from, to, days, fuel, e) >= 0; i++) {
            wholeRoutes();
            int needed = (int) both("cell", 1, -1);
            fuel = (int) both("cell", 1, -2);
            both("apart", from, to, needed, fuel, e);
            wholeRoutes();
            if (needed > 0 && both("apart", from, to, needed - 1, fuel, e) >= 0) {
                wholeRoutes();
            }
            if (fuel == 0) {
                return;
            }
            fuel--;
        }
    }

    /** Days and FUEL in full, and FUEL that is scarce over many days. */
    private void runLongRoutes(int number) {
        begin("long routes run " + number);
        drawMap();
        both("route", chance.nextInt(144), chance.nextInt(144), 40, 40);
        both("apart", chance.nextInt(144), chance.nextInt(144), 40, 40, chance.nextInt(3));
        wholeRoutes();
        both("apart", chance.nextInt(144), chance.nextInt(144), 40, 6 + chance.nextInt(16),
                chance.nextInt(3));
        wholeRoutes();
    }

    private int near(int cell, int far) {
        int x = cell % 12 + chance.nextInt(2 * far + 1) - far;
        int y = cell / 12 + chance.nextInt(2 * far + 1) - far;
        return 12 * Math.max(0, Math.min(11, y)) + Math.max(0, Math.min(11, x));
    }

    /** SIGHTS that a ship with a wrong CLOCK and a MISS gave, a little off now and then. */
    private void runLogs(int number) {
        begin("logs run " + number);
        int turns = 1 + chance.nextInt(6);
        for (int i = 0; i < turns; i++) {
            both("turn", 0, chance.nextInt(60), chance.nextInt(9) - 4);
        }
        if (chance.nextBoolean()) {
            both("fog", chance.nextInt(200), 200 + chance.nextInt(200));
        }
        int x = chance.nextInt(2000) - 1000;
        int y = chance.nextInt(2000) - 1000;
        int speed = 1 + chance.nextInt(20);
        both("ship", x, y, speed, chance.nextInt(11) - 5);
        both("miss", 0, chance.nextInt(10), chance.nextInt(turns));
        int off = chance.nextInt(3) * chance.nextInt(5000);
        int sights = 1 + chance.nextInt(12);
        for (int i = 0; i < sights; i++) {
            int t = chance.nextInt(601);
            both("sight", t, (int) both("place", 0, t, 0) + (off == 0 ? 0 : chance.nextInt(off)),
                    (int) both("place", 0, t, 1) - (off == 0 ? 0 : chance.nextInt(off)));
        }
        for (int what = 0; what < 4; what++) {
            both("told", x, y, speed, what);
        }
    }

    public static void main(String[] args) {
        Check check = new Check("OracleTest");
        long seed = args.length > 0 ? Long.parseLong(args[0]) : 20261116L;
        OracleTest test = new OracleTest(seed, check);
        for (int part = 0; part < PARTS.length; part++) {
            for (int i = 0; i < RUNS[part]; i++) {
                test.runPart(part, i);
            }
        }
        for (int i = 0; i < 60; i++) {
            test.runRoutes(i);
        }
        for (int i = 0; i < 6; i++) {
            test.runLongRoutes(i);
        }
        for (int i = 0; i < 30; i++) {
            test.runLogs(i);
        }
        check.finish();
    }
}
