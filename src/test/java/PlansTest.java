/** Promises 1 to 13: a new object, plans and ships. */
public final class PlansTest {
    private static final Check CHECK = new Check("PlansTest");
    private static final long LOST = -1000000000000L;

    private static void due(String call, long got, long want) {
        CHECK.due(call, got, want);
    }

    /** Promise 1. */
    private static void newObject() {
        ConvoyRoom r = new ConvoyRoom();
        for (int what = 0; what <= 7; what++) {
            due("new: about(" + what + ")", r.about(what), 0);
        }
        for (int plan = 0; plan < 4; plan++) {
            due("new: about(1" + plan + ")", r.about(10 + plan), 0);
            due("new: course", r.course(plan, 59), 0);
        }
        for (int c = 0; c < 144; c++) {
            due("new: danger", r.danger(c % 12, c / 12, 0), 0);
        }
        due("new: place", r.place(0, 0, 0), LOST - 1);
        due("new: cell A", r.cell(0, 0), -6);
        due("new: cell B", r.cell(1, 0), -6);
        due("new: forget", r.forget(), 0);
        due("new: centre", r.centre(10), 10);
        due("new: steer", r.steer(0), 0);
        // 300000 ahead, 5 and 20000 against 10: 15 t and 20 are 300 or more at minute 19.
        due("new: comes", r.comes(0), 19);
    }

    /** Each object has a state of its own. */
    private static void twoObjects() {
        ConvoyRoom a = new ConvoyRoom();
        ConvoyRoom b = new ConvoyRoom();
        a.turn(0, 0, 4);
        a.ship(1, 1, 1, 1);
        a.danger(0, 0, -1);
        due("other: about(10)", b.about(10), 0);
        due("other: about(1)", b.about(1), 0);
        due("other: about(6)", b.about(6), 0);
    }

    /** Promise 2. */
    private static void turns() {
        ConvoyRoom r = new ConvoyRoom();
        due("turn(-1, 60, 9)", r.turn(-1, 60, 9), -1);
        due("turn(4, 0, 0)", r.turn(4, 0, 0), -1);
        due("turn(3, -1, 0)", r.turn(3, -1, 0), -2);
        due("turn(3, 60, 0)", r.turn(3, 60, 0), -2);
        due("turn(3, 0, -5)", r.turn(3, 0, -5), -2);
        due("turn(3, 0, 5)", r.turn(3, 0, 5), -2);
        due("about(13)", r.about(13), 0);
        due("turn(3, 59, -4)", r.turn(3, 59, -4), 1);
        due("turn(3, 0, 4)", r.turn(3, 0, 4), 2);
        due("turn(3, 59, 1)", r.turn(3, 59, 1), -5);
        for (int i = 1; i <= 10; i++) {
            due("turn(3, i, 1)", r.turn(3, 40 - i, 1), 2 + i);
        }
        due("turn full", r.turn(3, 50, 1), -4);
        due("turn full ahead of no", r.turn(3, 59, 1), -4);
        due("turn outside ahead of full", r.turn(3, 61, 1), -2);
        due("about(13)", r.about(13), 12);
        due("about(12)", r.about(12), 0);
        due("ofTurn(3, 11, 0)", r.ofTurn(3, 11, 0), 59);
        due("ofTurn(3, 11, 1)", r.ofTurn(3, 11, 1), -4);
        due("ofTurn(3, 1, 0)", r.ofTurn(3, 1, 0), 30);
    }

    /** Promises 3 and 4. */
    private static void clearAndOfTurn() {
        ConvoyRoom r = new ConvoyRoom();
        r.turn(1, 30, 2);
        r.turn(1, 10, -1);
        r.turn(2, 5, 3);
        due("ofTurn(1, 0, 0)", r.ofTurn(1, 0, 0), 10);
        due("ofTurn(1, 0, 1)", r.ofTurn(1, 0, 1), -1);
        due("ofTurn(1, 1, 0)", r.ofTurn(1, 1, 0), 30);
        due("ofTurn(1, 1, 1)", r.ofTurn(1, 1, 1), 2);
        due("ofTurn(1, 2, 0)", r.ofTurn(1, 2, 0), -101);
        due("ofTurn(1, 2, 2)", r.ofTurn(1, 2, 2), -101);
        due("ofTurn(1, -1, 0)", r.ofTurn(1, -1, 0), -101);
        due("ofTurn(-1, 0, 0)", r.ofTurn(-1, 0, 0), -101);
        due("ofTurn(4, 0, 0)", r.ofTurn(4, 0, 0), -101);
        due("ofTurn(1, 0, 2)", r.ofTurn(1, 0, 2), -102);
        due("ofTurn(1, 0, -1)", r.ofTurn(1, 0, -1), -102);
        due("clear(-1)", r.clear(-1), -1);
        due("clear(4)", r.clear(4), -1);
        due("clear(1)", r.clear(1), 2);
        due("clear(1) again", r.clear(1), 0);
        due("ofTurn cleared", r.ofTurn(1, 0, 0), -101);
        due("course cleared", r.course(1, 40), 0);
        due("ofTurn(2, 0, 0)", r.ofTurn(2, 0, 0), 5);
        due("turn after clear", r.turn(1, 10, 4), 1);
    }

    /** Promise 5. */
    private static void courses() {
        ConvoyRoom r = new ConvoyRoom();
        r.turn(0, 20, -2);
        r.turn(0, 50, 4);
        due("course(0, 0)", r.course(0, 0), 0);
        due("course(0, 19)", r.course(0, 19), 0);
        due("course(0, 20)", r.course(0, 20), -2);
        due("course(0, 49)", r.course(0, 49), -2);
        due("course(0, 50)", r.course(0, 50), 4);
        due("course(0, 59)", r.course(0, 59), 4);
        due("course(0, 60)", r.course(0, 60), 0);
        due("course(0, 599)", r.course(0, 599), 4);
        due("course(0, 600)", r.course(0, 600), 0);
        due("course(0, 601)", r.course(0, 601), -102);
        due("course(0, -1)", r.course(0, -1), -102);
        due("course(4, -1)", r.course(4, -1), -101);
        due("course(-1, 0)", r.course(-1, 0), -101);
        r.fog(0, 600);
        due("course in fog", r.course(0, 20), -2);
    }

    /** Promise 6. */
    private static void grounds() {
        int[] ahead = {1000, 924, 707, 383, 0};
        int[] across = {0, 383, 707, 924, 1000};
        for (int size = 0; size <= 4; size++) {
            ConvoyRoom r = new ConvoyRoom();
            r.turn(0, 0, size);
            r.turn(1, 0, -size);
            due("ground x of " + size, r.ground(0, 1, 0), ahead[size]);
            due("ground y of " + size, r.ground(0, 1, 1), across[size]);
            due("ground x of -" + size, r.ground(1, 1, 0), ahead[size]);
            due("ground y of -" + size, r.ground(1, 1, 1), -across[size]);
        }
        ConvoyRoom r = new ConvoyRoom();
        r.turn(2, 58, 4);
        due("ground(2, 58, 1)", r.ground(2, 58, 1), 0);
        due("ground(2, 59, 1)", r.ground(2, 59, 1), 1000);
        due("ground(2, 59, 0)", r.ground(2, 59, 0), 58000);
        due("ground(2, 61, 0)", r.ground(2, 61, 0), 59000);
        due("ground(2, 600, 0)", r.ground(2, 600, 0), 580000);
        due("ground(2, 600, 1)", r.ground(2, 600, 1), 20000);
        due("ground(2, 0, 1)", r.ground(2, 0, 1), 0);
        due("ground(-1, 0, 0)", r.ground(-1, 0, 0), LOST - 1);
        due("ground(4, 601, 0)", r.ground(4, 601, 0), LOST - 1);
        due("ground(2, 601, 0)", r.ground(2, 601, 0), LOST - 2);
        due("ground(2, -1, 0)", r.ground(2, -1, 0), LOST - 2);
        due("ground(2, 0, 2)", r.ground(2, 0, 2), LOST - 2);
        due("ground(2, 0, -1)", r.ground(2, 0, -1), LOST - 2);
        r.fog(0, 600);
        due("ground in fog", r.ground(2, 59, 1), 1000);
    }

    /** Promise 7. */
    private static void steering() {
        ConvoyRoom r = new ConvoyRoom();
        r.turn(3, 0, 4);
        r.ship(0, 0, 2, 0);
        due("steer(3)", r.steer(3), 0);
        due("place by plan 3", r.place(0, 1, 1), 2000);
        due("steer(4)", r.steer(4), -1);
        due("steer(-1)", r.steer(-1), -1);
        due("about(0)", r.about(0), 3);
        due("steer(1)", r.steer(1), 3);
        due("place by plan 1", r.place(0, 1, 1), 0);
        due("steer(1)", r.steer(1), 1);
    }

    /** Promise 8. */
    private static void ships() {
        ConvoyRoom r = new ConvoyRoom();
        due("ship x low", r.ship(-100001, 0, 1, 0), -2);
        due("ship x high", r.ship(100001, 0, 1, 0), -2);
        due("ship y low", r.ship(0, -100001, 1, 0), -2);
        due("ship y high", r.ship(0, 100001, 1, 0), -2);
        due("ship speed 0", r.ship(0, 0, 0, 0), -2);
        due("ship speed 21", r.ship(0, 0, 21, 0), -2);
        due("ship clock -6", r.ship(0, 0, 1, -6), -2);
        due("ship clock 6", r.ship(0, 0, 1, 6), -2);
        due("about(1)", r.about(1), 0);
        due("ship 0", r.ship(-100000, 100000, 20, -5), 0);
        due("ship 1", r.ship(100000, -100000, 1, 5), 1);
        for (int i = 2; i < 9; i++) {
            due("ship i", r.ship(i, 10 * i, 10, 0), i);
        }
        due("ship full", r.ship(0, 0, 1, 0), -4);
        due("ship outside ahead of full", r.ship(0, 0, 0, 0), -2);
        due("about(1)", r.about(1), 9);
        due("place(0, 0, 0)", r.place(0, 0, 0), -100000);
        due("place(0, 0, 1)", r.place(0, 0, 1), 100000);
        due("place(8, 0, 1)", r.place(8, 0, 1), 80);
        due("place(0, 600, 0)", r.place(0, 600, 0), 11900000);
    }

    /** Promise 9. */
    private static void misses() {
        ConvoyRoom r = new ConvoyRoom();
        r.turn(0, 0, 1);
        r.turn(0, 20, 2);
        r.turn(0, 40, 4);
        due("miss without ships", r.miss(0, 0, 0), -1);
        r.ship(0, 0, 1, 0);
        r.ship(0, 0, 1, -5);
        due("miss(2, 0, 0)", r.miss(2, 0, 0), -1);
        due("miss(-1, 10, 0)", r.miss(-1, 10, 0), -1);
        due("miss(0, 10, 0)", r.miss(0, 10, 0), -2);
        due("miss(0, -1, 0)", r.miss(0, -1, 0), -2);
        due("miss(0, 0, 12)", r.miss(0, 0, 12), -2);
        due("miss(0, 0, -1)", r.miss(0, 0, -1), -2);
        due("about(2)", r.about(2), 0);
        due("miss(0, 1, 1)", r.miss(0, 1, 1), 1);
        due("miss(0, 1, 1) again", r.miss(0, 1, 1), -5);
        long first = 20 * 383 + 20 * 707 + 20 * 1000;
        due("place(0, 60, 1)", r.place(0, 60, 1), first);
        // Without the TURN the COURSE ahead of it goes on.
        due("place(0, 120, 1)", r.place(0, 120, 1), first + 40 * 383 + 20 * 1000);
        due("miss(0, 1, 0)", r.miss(0, 1, 0), 2);
        due("place both missed", r.place(0, 120, 1), first + 20 * 1000);
        due("place next hour", r.place(0, 180, 1), 2 * first + 20 * 1000);
        // Hours by its own clock, and COURSE 0 as long as that is below 0.
        due("miss(1, 0, 0)", r.miss(1, 0, 0), 3);
        due("place(1, 25, 1)", r.place(1, 25, 1), 0);
        due("place(1, 26, 1)", r.place(1, 26, 1), 707);
        due("place(1, 5, 0)", r.place(1, 5, 0), 5000);
        due("place(1, 65, 1)", r.place(1, 65, 1), 20 * 707 + 20 * 1000);
        due("place(1, 66, 1)", r.place(1, 66, 1), 20 * 707 + 20 * 1000 + 383);
        for (int i = 0; i < 12; i++) {
            due("miss(1, 9, i)", r.miss(1, 9, i), 4 + i);
        }
        for (int i = 0; i < 5; i++) {
            due("miss(1, 8, i)", r.miss(1, 8, 11 - i), 16 + i);
        }
        due("miss full", r.miss(0, 2, 0), -4);
        due("miss full ahead of no", r.miss(0, 1, 1), -4);
        due("about(2)", r.about(2), 20);
        due("place(0, 180, 1)", r.place(0, 180, 1), 2 * first + 20 * 1000);
    }

    /** MISSES go by the TURN's number in THE PLAN as it is now. */
    private static void missesByNumber() {
        ConvoyRoom r = new ConvoyRoom();
        r.turn(0, 30, 4);
        r.turn(1, 50, 4);
        r.ship(0, 0, 1, 0);
        r.miss(0, 0, 0);
        due("missed", r.place(0, 60, 1), 0);
        r.turn(0, 10, 2);
        due("numbered anew", r.place(0, 60, 1), 30000);
        r.steer(1);
        due("in the other plan", r.place(0, 60, 1), 0);
        r.clear(1);
        r.turn(1, 0, 0);
        r.turn(1, 1, -4);
        due("after clear", r.place(0, 60, 1), -59000);
    }

    /** Promise 10. */
    private static void fogs() {
        ConvoyRoom r = new ConvoyRoom();
        r.turn(0, 0, 4);
        r.ship(0, 0, 1, 5);
        due("place clear", r.place(0, 600, 1), 600000);
        due("fog(10, 20)", r.fog(10, 20), 1);
        due("place(0, 10, 1)", r.place(0, 10, 1), 10000);
        due("place(0, 20, 1)", r.place(0, 20, 1), 10000);
        due("place(0, 20, 0)", r.place(0, 20, 0), 10000);
        due("place(0, 21, 1)", r.place(0, 21, 1), 11000);
        due("fog(20, 19)", r.fog(20, 19), -2);
        due("fog(-1, 19)", r.fog(-1, 19), -2);
        due("fog(0, 601)", r.fog(0, 601), -2);
        due("fog(601, 601)", r.fog(601, 601), -2);
        due("about(3)", r.about(3), 10);
        due("about(4)", r.about(4), 20);
        due("fog(15, 15)", r.fog(15, 15), 1);
        due("place without fog", r.place(0, 600, 1), 600000);
        due("fog(0, 600)", r.fog(0, 600), 1);
        due("place in fog", r.place(0, 600, 1), 0);
        due("about(4)", r.about(4), 600);
    }

    /** Promise 11. */
    private static void places() {
        ConvoyRoom r = new ConvoyRoom();
        r.turn(0, 3, 4);
        r.ship(7, -7, 3, 2);
        r.ship(0, 0, 1, -3);
        due("place(0, 0, 0)", r.place(0, 0, 0), 7);
        due("place(0, 0, 1)", r.place(0, 0, 1), -7);
        due("place(0, 1, 0)", r.place(0, 1, 0), 3007);
        due("place(0, 2, 0)", r.place(0, 2, 0), 3007);
        due("place(0, 2, 1)", r.place(0, 2, 1), 2993);
        due("place(1, 6, 1)", r.place(1, 6, 1), 0);
        due("place(1, 7, 1)", r.place(1, 7, 1), 1000);
        // From 598 on its clock shows the hour 10: COURSE 0 for 3 minutes of it.
        due("place(0, 598, 0)", r.place(0, 598, 0), 7 + 3000 * (1 + 9 * 3));
        due("place(0, 600, 0)", r.place(0, 600, 0), 7 + 3000 * (1 + 9 * 3 + 2));
        due("place(2, 0, 0)", r.place(2, 0, 0), LOST - 1);
        due("place(-1, 601, 5)", r.place(-1, 601, 5), LOST - 1);
        due("place(0, 601, 0)", r.place(0, 601, 0), LOST - 2);
        due("place(0, -1, 0)", r.place(0, -1, 0), LOST - 2);
        due("place(0, 0, 2)", r.place(0, 0, 2), LOST - 2);
        due("place(0, 0, -1)", r.place(0, 0, -1), LOST - 2);
    }

    /** Promise 12. */
    private static void nearest() {
        ConvoyRoom r = new ConvoyRoom();
        due("nearest without ships", r.nearest(0, 0), LOST - 3);
        r.ship(0, 0, 1, 0);
        due("nearest with one", r.nearest(600, 3), LOST - 3);
        due("nearest(601, 0)", r.nearest(601, 0), LOST - 2);
        due("nearest(-1, 0)", r.nearest(-1, 0), LOST - 2);
        due("nearest(0, 4)", r.nearest(0, 4), LOST - 2);
        due("nearest(0, -1)", r.nearest(0, -1), LOST - 2);
        r.ship(0, 3000, 1, 0);
        due("nearest with two", r.nearest(600, 0), 9000000);
        r.ship(10000, 7000, 1, 0);
        r.ship(-6000, 7000, 2, 0);
        long[] atFirst = {9000000, 0, 0, 1};
        // Ship 3 gains 1000 a minute: at 15 it is 1000 from ship 2, at 16 on it.
        long[] at15 = {1000000, 15, 2, 3};
        long[] at16 = {0, 16, 2, 3};
        for (int what = 0; what < 4; what++) {
            due("nearest(0, what)", r.nearest(0, what), atFirst[what]);
            due("nearest(13, what)", r.nearest(13, what), atFirst[what]);
            due("nearest(15, what)", r.nearest(15, what), at15[what]);
            due("nearest(600, what)", r.nearest(600, what), at16[what]);
        }
        ConvoyRoom s = new ConvoyRoom();
        s.ship(0, 0, 1, 0);
        s.ship(0, 9, 1, 0);
        s.ship(0, 4, 1, 0);
        s.ship(0, 13, 1, 0);
        due("first of pairs alike", s.nearest(5, 2), 0);
        due("second of pairs alike", s.nearest(5, 3), 2);
        due("square of pairs alike", s.nearest(5, 0), 16);
    }

    /** Promise 13. */
    private static void close() {
        ConvoyRoom r = new ConvoyRoom();
        due("close without ships", r.close(600, 1000000), 0);
        r.ship(0, 0, 1, 0);
        due("close with one", r.close(600, 1000000), 0);
        r.ship(-5000, 0, 2, 0);
        due("close(0, 5000)", r.close(0, 5000), 0);
        due("close(0, 5001)", r.close(0, 5001), 1);
        due("close(600, 1)", r.close(600, 1), 1);
        due("close(4, 1)", r.close(4, 1), 0);
        due("close(5, 1)", r.close(5, 1), 1);
        due("close(600, 0)", r.close(600, 0), 0);
        due("close(600, 1000)", r.close(600, 1000), 1);
        due("close(600, 1001)", r.close(600, 1001), 3);
        r.ship(0, 500, 1, 0);
        due("close of some two", r.close(600, 501), 601);
        due("close(601, 0)", r.close(601, 0), -2);
        due("close(-1, 0)", r.close(-1, 0), -2);
        due("close(0, -1)", r.close(0, -1), -2);
        due("close(0, 1000001)", r.close(0, 1000001), -2);
        due("close(0, 1000000)", r.close(0, 1000000), 1);
    }

    public static void main(String[] args) {
        newObject();
        twoObjects();
        turns();
        clearAndOfTurn();
        courses();
        grounds();
        steering();
        ships();
        misses();
        missesByNumber();
        fogs();
        places();
        nearest();
        close();
        CHECK.finish();
    }
}
