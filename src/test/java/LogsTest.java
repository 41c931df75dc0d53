/** Promises 28 to 31: logs. */
public final class LogsTest {
    private static final Check CHECK = new Check("LogsTest");
    private static final long LOST = -1000000000000L;

    private static void due(String call, long got, long want) {
        CHECK.due(call, got, want);
    }

    private static void toldIs(String name, ConvoyRoom r, int speed, long... want) {
        for (int what = 0; what < 4; what++) {
            due(name + " " + what, r.told(0, 0, speed, what), want[what]);
        }
    }

    /** Promises 28 and 29. */
    private static void sightAndForget() {
        ConvoyRoom r = new ConvoyRoom();
        due("sight(-1, 0, 0)", r.sight(-1, 0, 0), -2);
        due("sight(601, 0, 0)", r.sight(601, 0, 0), -2);
        due("sight x low", r.sight(0, -10000001, 0), -2);
        due("sight x high", r.sight(0, 10000001, 0), -2);
        due("sight y low", r.sight(0, 0, -10000001), -2);
        due("sight y high", r.sight(0, 0, 10000001), -2);
        due("about(7)", r.about(7), 0);
        due("sight edges", r.sight(600, -10000000, 10000000), 1);
        due("sight edges", r.sight(0, 10000000, -10000000), 2);
        for (int i = 3; i <= 12; i++) {
            due("sight alike", r.sight(0, 1, 1), i);
        }
        due("sight full", r.sight(0, 1, 1), -4);
        due("sight outside ahead of full", r.sight(601, 1, 1), -2);
        due("about(7)", r.about(7), 12);
        due("forget()", r.forget(), 12);
        due("about(7)", r.about(7), 0);
        due("told after forget", r.told(0, 0, 1, 0), LOST - 3);
        due("forget()", r.forget(), 0);
        due("sight after forget", r.sight(0, 1, 1), 1);
        due("told by the one", r.told(0, 0, 1, 0), 2);
    }

    /** Promise 30: refusals. */
    private static void toldRefused() {
        ConvoyRoom r = new ConvoyRoom();
        due("told without sights", r.told(0, 0, 1, 0), LOST - 3);
        due("told outside ahead of state", r.told(0, 0, 0, 0), LOST - 2);
        r.sight(0, 0, 0);
        due("told x", r.told(100001, 0, 1, 0), LOST - 2);
        due("told x", r.told(-100001, 0, 1, 0), LOST - 2);
        due("told y", r.told(0, 100001, 1, 0), LOST - 2);
        due("told y", r.told(0, -100001, 1, 0), LOST - 2);
        due("told speed", r.told(0, 0, 21, 0), LOST - 2);
        due("told speed", r.told(0, 0, 0, 0), LOST - 2);
        due("told what", r.told(0, 0, 1, 4), LOST - 2);
        due("told what", r.told(0, 0, 1, -1), LOST - 2);
        due("told edges", r.told(100000, -100000, 20, 0), 200000);
    }

    /** Promise 30: one across for ten minutes each hour, at 20 and at 30. */
    private static void told() {
        ConvoyRoom r = new ConvoyRoom();
        r.turn(0, 20, 4);
        r.turn(0, 30, 0);
        // Nothing has turned yet: no CLOCK can be told from another.
        r.sight(10, 20000, 0);
        toldIs("a right clock", r, 2, 0, 0, -6, -6);
        r.sight(20, 36000, 4000);
        toldIs("a fast clock", r, 2, 0, 2, -6, -6);
        r.forget();
        r.sight(24, 46000, 2000);
        toldIs("a slow clock", r, 2, 0, -3, -6, -6);
        r.forget();
        r.sight(60, 120000, 0);
        toldIs("missed the first turn", r, 2, 0, 0, 0, 0);
        r.sight(120, 180000, 60000);
        r.sight(119, 180000, 58000);
        // At 60 off by 20000 both ways, at 120 as well, at 119 by 18000: a MISS makes it worse.
        toldIs("a misfit", r, 2, 116000, 0, -6, -6);
        r.forget();
        r.sight(60, 100000, 20000);
        r.sight(120, 140000, 100000);
        toldIs("missed the second turn in hour 1", r, 2, 0, 0, 1, 1);
        r.forget();
        r.sight(600, 1000000, 200000);
        toldIs("all ten", r, 2, 0, 0, -6, -6);
        r.forget();
        r.sight(600, 1020000, 180000);
        toldIs("which hour can't be told", r, 2, 0, 0, 0, 0);
        r.sight(540, 900000, 180000);
        toldIs("the last hour", r, 2, 0, 0, 9, 0);
    }

    /** Promise 30: of CLOCKS that fit alike. */
    private static void toldAlike() {
        ConvoyRoom r = new ConvoyRoom();
        r.turn(0, 30, 4);
        // At minute 31 a CLOCK of 0 has gone one minute across, -1 none, 1 two.
        r.sight(31, 31000, 0);
        toldIs("a miss, ahead of a slow clock", r, 1, 0, 0, 0, 0);
        r.forget();
        r.sight(31, 29000, 2000);
        toldIs("the fast one", r, 1, 0, 1, -6, -6);
        r.forget();
        r.sight(31, 31000, 0);
        r.sight(31, 29000, 2000);
        toldIs("the middle of both", r, 1, 4000, 0, -6, -6);
        r.forget();
        r.sight(35, 35000, 0);
        // By a CLOCK of 0 only with a MISS: that CLOCK is of less size than -5.
        toldIs("the size of the clock first", r, 1, 0, 0, 0, 0);
        ConvoyRoom s = new ConvoyRoom();
        s.turn(0, 30, 4);
        s.turn(0, 31, 0);
        // Both -1 and 1 fit one of two SIGHTS in each hour, 0 fits none.
        s.sight(91, 90000, 1000);
        s.sight(30, 29000, 1000);
        s.sight(90, 88000, 2000);
        s.sight(31, 31000, 0);
        toldIs("below 0 ahead", s, 1, 4000, -1, -6, -6);
    }

    /** Promise 30: only hours 0 to 9 have MISSES, though a fast CLOCK comes to hour 10. */
    private static void toldInHour10() {
        ConvoyRoom r = new ConvoyRoom();
        r.turn(0, 1, 4);
        r.turn(0, 2, 0);
        r.sight(56, 56000, 0);
        r.sight(56, 56000, 0);
        r.sight(57, 56000, 1000);
        r.sight(57, 56000, 1000);
        r.sight(596, 587000, 9000);
        // By a CLOCK of 5 it is across once more at 596.
        r.sight(600, 591000, 9000);
        toldIs("hour 10", r, 1, 2000, 5, -6, -6);
    }

    /** Promise 30: THE PLAN and FOG count, MISSES and CLOCKS of SHIPS do not. */
    private static void toldByPlanAndFog() {
        ConvoyRoom r = new ConvoyRoom();
        r.turn(2, 10, -4);
        r.ship(0, 0, 1, 5);
        r.miss(0, 0, 0);
        r.sight(60, 10000, -50000);
        toldIs("plan 0", r, 1, 100000, 0, -6, -6);
        r.steer(2);
        toldIs("plan 2", r, 1, 0, 0, -6, -6);
        r.fog(0, 15);
        toldIs("fog", r, 1, 10000, 0, -6, -6);
        r.fog(50, 60);
        toldIs("fog", r, 1, 10000, 5, -6, -6);
        r.fog(20, 30);
        r.forget();
        r.sight(60, 60000, 0);
        toldIs("fog and a miss", r, 1, 0, 0, 0, 0);
        due("the ship's own", r.place(0, 65, 1), 0);
        due("the ship's own", r.place(0, 66, 1), -1000);
    }

    /** Promise 31. */
    private static void about() {
        ConvoyRoom r = new ConvoyRoom();
        r.steer(2);
        r.ship(0, 0, 1, 0);
        r.ship(0, 0, 1, 0);
        r.ship(0, 0, 1, 0);
        for (int i = 0; i < 4; i++) {
            r.miss(1, i, i);
        }
        r.fog(55, 66);
        for (int i = 0; i < 7; i++) {
            r.post(i, i, 1);
        }
        for (int i = 0; i < 8; i++) {
            r.danger(11 * (i % 2), 3 * (i / 2), -1);
        }
        for (int i = 0; i < 9; i++) {
            r.sight(i, i, i);
        }
        for (int i = 0; i < 10; i++) {
            r.turn(i % 4, i, 1);
        }
        due("danger", r.danger(0, 0, -1), -1);
        due("danger", r.danger(11, 11, -1), 0);
        due("danger", r.danger(11, 11, 0), -1);
        long[] want = {2, 3, 4, 55, 66, 7, 8, 9, -2, -2, 3, 3, 2, 2, -2};
        for (int what = 0; what < want.length; what++) {
            due("about(" + what + ")", r.about(what), want[what]);
        }
        due("about(-1)", r.about(-1), -2);
        due("about(least)", r.about(Integer.MIN_VALUE), -2);
        due("about(least and 10)", r.about(Integer.MIN_VALUE + 10), -2);
        due("about(most)", r.about(Integer.MAX_VALUE), -2);
    }

    public static void main(String[] args) {
        sightAndForget();
        toldRefused();
        told();
        toldAlike();
        toldInHour10();
        toldByPlanAndFog();
        about();
        CHECK.finish();
    }
}
