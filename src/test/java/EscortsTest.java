/** Promises 20 to 22: escorts. */
public final class EscortsTest {
    private static final Check CHECK = new Check("EscortsTest");

    private static void due(String call, long got, long want) {
        CHECK.due(call, got, want);
    }

    /** Promise 20. */
    private static void post() {
        ConvoyRoom r = new ConvoyRoom();
        due("post x low", r.post(-51, 0, 1), -2);
        due("post x high", r.post(51, 0, 1), -2);
        due("post y low", r.post(0, -51, 1), -2);
        due("post y high", r.post(0, 51, 1), -2);
        due("post range 0", r.post(0, 0, 0), -2);
        due("post range 41", r.post(0, 0, 41), -2);
        due("about(5)", r.about(5), 0);
        due("post 0", r.post(-50, 50, 40), 0);
        due("post 1", r.post(50, -50, 1), 1);
        for (int i = 2; i < 10; i++) {
            due("post i", r.post(0, 0, 1), i);
        }
        due("post full", r.post(0, 0, 1), -4);
        due("post outside ahead of full", r.post(0, 0, 0), -2);
        due("about(5)", r.about(5), 10);
        due("seen of all", r.seen(1023, 50), 41 + 41 - 1 + 3);
    }

    /** Promise 21. */
    private static void seen() {
        ConvoyRoom r = new ConvoyRoom();
        due("seen without posts", r.seen(0, 1), 0);
        due("seen(1, 1) without posts", r.seen(1, 1), -2);
        r.post(0, 0, 1);
        r.post(2, 0, 1);
        r.post(3, 4, 5);
        due("seen within 1", r.seen(1, 1), 4);
        due("seen by none", r.seen(0, 1), 0);
        due("seen beyond", r.seen(1, 2), 0);
        due("seen from the side", r.seen(2, 1), 1);
        due("seen from the ring", r.seen(2, 2), 3);
        due("seen twice counts once", r.seen(3, 1), 4);
        // 4 and 3 off is just within 5: one corner at that, another and two sides nearer.
        due("seen by the third", r.seen(4, 1), 4);
        due("seen by all", r.seen(7, 1), 6);
        due("seen(8, 1)", r.seen(8, 1), -2);
        due("seen(-1, 1)", r.seen(-1, 1), -2);
        due("seen(0, 0)", r.seen(0, 0), -2);
        due("seen(0, 51)", r.seen(0, 51), -2);
        due("seen(7, 50)", r.seen(7, 50), 0);
        r.post(0, 0, 40);
        due("a whole ring, each point once", r.seen(8, 28), 224);
        due("all but its corners", r.seen(8, 29), 8 * 29 - 4 * 3);
    }

    /** Promise 22. */
    private static void best() {
        ConvoyRoom r = new ConvoyRoom();
        due("best(0, 1)", r.best(0, 1), 0);
        due("best(1, 1) without posts", r.best(1, 1), -2);
        r.post(9, 9, 1);
        r.post(0, 3, 2);
        r.post(0, -3, 3);
        r.post(0, 3, 3);
        r.post(0, -3, 2);
        due("best(0, 3)", r.best(0, 3), 0);
        due("best(1, 3)", r.best(1, 3), 4);
        due("best(2, 3)", r.best(2, 3), 12);
        due("best(3, 3)", r.best(3, 3), 13);
        due("best(4, 3)", r.best(4, 3), 15);
        due("best(5, 3)", r.best(5, 3), 31);
        due("best of what sees nothing", r.best(2, 50), 3);
        due("best(6, 3)", r.best(6, 3), -2);
        due("best(-1, 3)", r.best(-1, 3), -2);
        due("best(0, 0)", r.best(0, 0), -2);
        due("best(0, 51)", r.best(0, 51), -2);
    }

    public static void main(String[] args) {
        post();
        seen();
        best();
        CHECK.finish();
    }
}
