/** Promises 14 to 19: the lurker. */
public final class LurkerTest {
    private static final Check CHECK = new Check("LurkerTest");

    private static void due(String call, long got, long want) {
        CHECK.due(call, got, want);
    }

    /** PLANS straight ahead, across, back across, ahead: 1000, 1000, -1000, 1000 a minute. */
    private static ConvoyRoom crossed() {
        ConvoyRoom r = new ConvoyRoom();
        r.turn(1, 0, 4);
        r.turn(2, 0, -4);
        r.centre(1);
        return r;
    }

    /** Promise 14. */
    private static void centre() {
        ConvoyRoom r = new ConvoyRoom();
        due("centre(0)", r.centre(0), -2);
        due("centre(21)", r.centre(21), -2);
        due("centre(1)", r.centre(1), 10);
        due("centre(20)", r.centre(20), 1);
        due("centre(20)", r.centre(20), 20);
        // 300 - 20 t is no more than 5 t and 20 from minute 12 on.
        due("comes at 20", r.comes(0), 12);
        // No FOG for THE CENTRE.
        r.turn(0, 0, 4);
        r.fog(0, 600);
        due("comes in fog", r.comes(0), -6);
    }

    /** Promise 15. */
    private static void lurk() {
        ConvoyRoom r = new ConvoyRoom();
        due("lurk x low", r.lurk(-2000001, 0, 1, 0), -2);
        due("lurk x high", r.lurk(2000001, 0, 1, 0), -2);
        due("lurk y low", r.lurk(0, -2000001, 1, 0), -2);
        due("lurk y high", r.lurk(0, 2000001, 1, 0), -2);
        due("lurk speed 0", r.lurk(0, 0, 0, 0), -2);
        due("lurk speed 21", r.lurk(0, 0, 21, 0), -2);
        due("lurk reach -1", r.lurk(0, 0, 1, -1), -2);
        due("lurk reach 200001", r.lurk(0, 0, 1, 200001), -2);
        due("the lurker stays", r.comes(0), 19);
        due("lurk edges", r.lurk(2000000, -2000000, 20, 200000), 1);
        due("lurk edges", r.lurk(-2000000, 2000000, 1, 0), 1);
        due("lurk", r.lurk(0, 50000, 1, 50000), 1);
        due("comes at once", r.comes(0), 0);
    }

    /** A LURKER that was never put elsewhere: 300000, 0; 5; 20000. */
    private static void lurkAtFirst() {
        ConvoyRoom r = new ConvoyRoom();
        r.centre(9);
        // 300 is just 20 times 9 and 5, and 20.
        due("comes just within", r.comes(0), 20);
        r.centre(2);
        r.turn(0, 0, 3);
        r.turn(0, 10, -1);
        // The other PLANS' place is 20000.1 away.
        due("gets just beyond", r.gets(0, 46), 1);
        due("it can be there", r.gets(1, 46), 14);
        r.turn(1, 0, 1);
        due("a little across of it", r.comes(1), 42);
    }

    /** Promise 16. */
    private static void comes() {
        ConvoyRoom r = crossed();
        due("comes(-1)", r.comes(-1), -1);
        due("comes(4)", r.comes(4), -1);
        r.lurk(0, 100000, 1, 0);
        due("comes just there", r.comes(1), 50);
        due("comes never", r.comes(2), -6);
        r.lurk(0, 100000, 1, 1);
        due("comes with a reach of 1", r.comes(1), 50);
        r.lurk(0, 100000, 1, 2000);
        due("comes a minute sooner", r.comes(1), 49);
        r.lurk(1200000, 0, 1, 0);
        due("comes at the last minute", r.comes(0), 600);
        r.lurk(1200001, 0, 1, 0);
        due("comes too late", r.comes(0), -6);
        r.lurk(1200001, 0, 1, 1);
        due("comes by its reach", r.comes(0), 600);
    }

    /** Promise 17. */
    private static void gets() {
        ConvoyRoom r = crossed();
        r.lurk(0, 0, 1, 0);
        due("gets(0, 0)", r.gets(0, 0), 15);
        due("gets(0, 5)", r.gets(0, 5), 9);
        due("gets(1, 5)", r.gets(1, 5), 2);
        due("gets(3, 600)", r.gets(3, 600), 9);
        r.lurk(0, 0, 1, 14142);
        // 10000 ahead and 10000 across are 14142.1 from one another.
        due("gets just beyond", r.gets(0, 10), 9);
        r.lurk(0, 0, 1, 14143);
        due("gets just within", r.gets(0, 10), 15);
        due("gets two", r.gets(1, 10), 11);
        r.lurk(0, 0, 1, 20000);
        due("gets across", r.gets(1, 10), 15);
        r.lurk(-1, 0, 1, 200000);
        due("it can't be there", r.gets(0, 10), 0);
        r.lurk(1, 0, 1, 200000);
        due("it can", r.gets(0, 10), 15);
        due("gets(4, 601)", r.gets(4, 601), -1);
        due("gets(-1, 0)", r.gets(-1, 0), -1);
        due("gets(0, 601)", r.gets(0, 601), -2);
        due("gets(0, -1)", r.gets(0, -1), -2);
    }

    /** Promise 18. */
    private static void worst() {
        ConvoyRoom r = crossed();
        r.lurk(0, 0, 1, 0);
        due("worst sum", r.worst(9, 3, 7, 7, 4, 0), 7);
        due("worst plan of several", r.worst(9, 3, 7, 7, 4, 1), 0);
        due("worst plan", r.worst(9, 3, 7, 8, 4, 1), 2);
        due("worst sum", r.worst(9, 3, 7, 8, 4, 0), 8);
        due("worst without weights", r.worst(9, 0, 0, 0, 0, 0), 0);
        due("worst plan without weights", r.worst(9, 0, 0, 0, 0, 1), 0);
        r.lurk(0, -1000, 1, 0);
        due("only where it can be", r.worst(9, 20, 20, 1, 20, 0), 1);
        due("only where it can be", r.worst(9, 20, 20, 1, 20, 1), 2);
        due("first place of weight 0", r.worst(9, 20, 20, 0, 20, 1), 2);
        r.lurk(2000000, 0, 1, 0);
        due("nowhere", r.worst(9, 1, 1, 1, 1, 0), 0);
        due("nowhere", r.worst(9, 1, 1, 1, 1, 1), -6);
        r.lurk(0, 0, 1, 0);
        due("worst at first", r.worst(0, 1, 1, 1, 1, 0), 4);
        due("worst at last", r.worst(600, 1, 1, 1, 1, 0), 2);
        due("worst t", r.worst(601, 1, 1, 1, 1, 1), -2);
        due("worst t", r.worst(-1, 1, 1, 1, 1, 1), -2);
        due("worst a", r.worst(9, 21, 1, 1, 1, 1), -2);
        due("worst b", r.worst(9, 1, -1, 1, 1, 1), -2);
        due("worst c", r.worst(9, 1, 1, 21, 1, 1), -2);
        due("worst d", r.worst(9, 1, 1, 1, -1, 1), -2);
        due("worst what", r.worst(9, 1, 1, 1, 1, 2), -2);
        due("worst what", r.worst(9, 1, 1, 1, 1, -1), -2);
    }

    private static void mixIs(ConvoyRoom r, int t, int n, int... want) {
        for (int what = 0; what < 5; what++) {
            due("mix(" + t + ", " + n + ", " + what + ")", r.mix(t, n, what), want[what]);
        }
    }

    /** Promise 19. */
    private static void mix() {
        ConvoyRoom r = crossed();
        r.lurk(0, 0, 1, 0);
        // PLANS 0 and 3 are got together: three places to share the weights.
        mixIs(r, 9, 3, 0, 1, 1, 1, 1);
        mixIs(r, 9, 4, 0, 0, 2, 2, 2);
        mixIs(r, 9, 12, 0, 4, 4, 4, 4);
        mixIs(r, 9, 11, 0, 3, 4, 4, 4);
        mixIs(r, 9, 1, 0, 0, 0, 1, 1);
        mixIs(r, 0, 12, 0, 0, 0, 12, 12);
        r.lurk(0, -1000, 1, 0);
        mixIs(r, 9, 7, 0, 0, 0, 7, 0);
        r.turn(3, 0, -4);
        mixIs(r, 9, 7, 0, 7, 0, 0, 0);
        due("mix t", r.mix(601, 1, 0), -2);
        due("mix t", r.mix(-1, 1, 0), -2);
        due("mix n", r.mix(0, 0, 0), -2);
        due("mix n", r.mix(0, 13, 0), -2);
        due("mix what", r.mix(0, 1, 5), -2);
        due("mix what", r.mix(0, 1, -1), -2);
    }

    public static void main(String[] args) {
        centre();
        lurk();
        lurkAtFirst();
        comes();
        gets();
        worst();
        mix();
        CHECK.finish();
    }
}
