/** Promises 23 to 27: routes. */
public final class RoutesTest {
    private static final Check CHECK = new Check("RoutesTest");

    private static void due(String call, long got, long want) {
        CHECK.due(call, got, want);
    }

    /** Only the top rows of THE MAP are water. */
    private static ConvoyRoom channel(int rows) {
        ConvoyRoom r = new ConvoyRoom();
        for (int y = rows; y < 12; y++) {
            for (int x = 0; x < 12; x++) {
                r.danger(x, y, -1);
            }
        }
        return r;
    }

    private static void cellsAre(String name, ConvoyRoom r, int which, int fuel, int... cells) {
        due(name + " days", r.cell(which, -1), cells.length - 1);
        due(name + " fuel", r.cell(which, -2), fuel);
        for (int i = 0; i <= 40; i++) {
            due(name + " day " + i, r.cell(which, i), cells[Math.min(i, cells.length - 1)]);
        }
    }

    /** Promise 23. */
    private static void danger() {
        ConvoyRoom r = new ConvoyRoom();
        due("danger(-1, 0, 100)", r.danger(-1, 0, 100), -101);
        due("danger(12, 0, 0)", r.danger(12, 0, 0), -101);
        due("danger(0, -1, 0)", r.danger(0, -1, 0), -101);
        due("danger(0, 12, 0)", r.danger(0, 12, 0), -101);
        due("danger(0, 0, 100)", r.danger(0, 0, 100), -102);
        due("danger(0, 0, -2)", r.danger(0, 0, -2), -102);
        due("danger(2, 1, 99)", r.danger(2, 1, 99), 0);
        due("danger(1, 2, 1)", r.danger(1, 2, 1), 0);
        due("danger(2, 1, -1)", r.danger(2, 1, -1), 99);
        due("about(6)", r.about(6), 1);
        due("danger(2, 1, 0)", r.danger(2, 1, 0), -1);
        due("danger(2, 1, 0)", r.danger(2, 1, 0), 0);
        due("about(6)", r.about(6), 0);
        due("danger(11, 11, 5)", r.danger(11, 11, 5), 0);
    }

    /** Promises 24 and 26. */
    private static void route() {
        ConvoyRoom r = new ConvoyRoom();
        due("cell(0, 0) of none", r.cell(0, 0), -6);
        due("route(0, 0, 0, 0)", r.route(0, 0, 0, 0), 0);
        cellsAre("staying", r, 0, 0, 0);
        due("route(0, 3, 5, 5)", r.route(0, 3, 5, 5), 0);
        // Of the ways alike the first by numbers of CELLS.
        cellsAre("ahead", r, 0, 3, 0, 1, 2, 3);
        due("route(26, 62, 5, 5)", r.route(26, 62, 5, 5), 0);
        cellsAre("down", r, 0, 3, 26, 37, 49, 62);
        due("route(62, 26, 5, 5)", r.route(62, 26, 5, 5), 0);
        cellsAre("up", r, 0, 3, 62, 49, 37, 26);
        due("route days", r.route(0, 3, 2, 5), -5);
        due("route fuel", r.route(0, 3, 5, 2), -5);
        due("route just", r.route(0, 3, 3, 3), 0);
        due("route(-1, 0, 41, 0)", r.route(-1, 0, 41, 0), -1);
        due("route(0, 144, 0, 0)", r.route(0, 144, 0, 0), -1);
        due("route(0, 0, 41, 0)", r.route(0, 0, 41, 0), -2);
        due("route(0, 0, -1, 0)", r.route(0, 0, -1, 0), -2);
        due("route(0, 0, 0, 41)", r.route(0, 0, 0, 41), -2);
        due("route(0, 0, 0, -1)", r.route(0, 0, 0, -1), -2);
        cellsAre("stays as it was", r, 0, 3, 0, 1, 2, 3);
        due("cell(2, 0)", r.cell(2, 0), -2);
        due("cell(-1, 0)", r.cell(-1, 0), -2);
        due("cell(0, 41)", r.cell(0, 41), -2);
        due("cell(0, -3)", r.cell(0, -3), -2);
        due("cell(1, 41) of none", r.cell(1, 41), -2);
        due("cell(1, -2) of none", r.cell(1, -2), -6);
    }

    /** DANGER of CELLS come to counts, that of the first one does not; LAND is never come to. */
    private static void dangersOfRoutes() {
        ConvoyRoom r = channel(3);
        r.danger(0, 0, 50);
        r.danger(2, 0, -1);
        r.danger(2, 1, 9);
        r.danger(2, 2, 3);
        r.danger(3, 0, 1);
        r.danger(3, 1, 4);
        r.danger(3, 2, 4);
        r.danger(4, 1, 2);
        due("least danger", r.route(0, 16, 9, 9), 9);
        cellsAre("least danger", r, 0, 4, 0, 13, 26, 15, 16);
        due("the same in 4 days", r.route(0, 16, 4, 40), 9);
        r.danger(3, 1, -1);
        due("land", r.route(15, 0, 40, 40), -5);
        due("land", r.route(0, 15, 40, 40), -5);
        due("land to itself", r.route(15, 15, 40, 40), -5);
        due("beyond land", r.route(0, 36, 40, 40), -5);
        due("round it", r.route(0, 16, 9, 9), 9);
        r.danger(2, 1, 0);
        r.danger(2, 2, 0);
        // Both 3 and 27 are beside 14; by 3 it costs less.
        due("by the other cell", r.route(0, 16, 9, 9), 3);
        cellsAre("by the other cell", r, 0, 4, 0, 1, 14, 3, 16);
    }

    /** Less DANGER is better than fewer days, up to T and F. */
    private static void longWays() {
        ConvoyRoom r = new ConvoyRoom();
        for (int y = 0; y < 11; y++) {
            r.danger(5, y, 99);
        }
        due("through", r.route(4, 6, 20, 2), 99);
        due("through", r.route(4, 6, 19, 40), 99);
        due("fuel of 19", r.route(4, 6, 40, 19), 99);
        due("round", r.route(4, 6, 20, 40), 99);
        due("round", r.route(4, 6, 22, 22), 0);
        due("round days", r.cell(0, -1), 22);
        due("round day 11", r.cell(0, 11), 12 * 11 + 5);
        due("round with all", r.route(4, 6, 40, 40), 0);
        due("round with all, days", r.cell(0, -1), 22);
        for (int c = 0; c < 144; c++) {
            r.danger(c % 12, c / 12, 99);
        }
        due("danger all over", r.route(0, 143, 40, 40), 11 * 99);
        for (int x = 0; x < 11; x++) {
            r.danger(x, 1, -1);
            r.danger(11 - x, 3, -1);
            r.danger(x, 5, -1);
            r.danger(11 - x, 7, -1);
        }
        due("winding", r.route(0, 96, 40, 40), -5);
        // 11 days to each gap, the last one aslant, and one more behind the last gap.
        due("winding, 2 gaps", r.route(0, 48, 40, 40), 23 * 99);
        due("winding, days", r.cell(0, -1), 23);
        due("winding, 3 gaps", r.route(0, 83, 40, 40), 34 * 99);
        due("winding, 41 days", r.route(0, 75, 40, 40), -5);
        due("winding, 40 days", r.route(0, 76, 40, 40), 40 * 99);
        due("winding, 39 fuel", r.route(0, 76, 40, 39), -5);
        due("winding, days", r.cell(0, -1), 40);
        due("winding, fuel", r.cell(0, -2), 40);
        due("winding, day 39", r.cell(0, 39), 77);
        due("winding, day 40", r.cell(0, 40), 76);
        due("apart, 40 days", r.apart(76, 0, 40, 40, 0), -5);
        due("apart, to its end", r.apart(79, 76, 40, 40, 0), -5);
        due("word on day 40", r.word(40, 76), 0);
        due("word on day 40", r.word(40, 77), -5);
        due("word on day 39", r.word(39, 78), 99);
        due("word on day 39", r.cell(0, 40), 78);
    }

    /** Promise 25. */
    private static void apart() {
        ConvoyRoom r = channel(2);
        due("apart(144, 0, 41, 0, 0)", r.apart(144, 0, 41, 0, 0), -1);
        due("apart(0, -1, 0, 0, 0)", r.apart(0, -1, 0, 0, 0), -1);
        due("apart(0, 0, 41, 0, 0)", r.apart(0, 0, 41, 0, 0), -2);
        due("apart(0, 0, 0, -1, 0)", r.apart(0, 0, 0, -1, 0), -2);
        due("apart(0, 0, 0, 0, 6)", r.apart(0, 0, 0, 0, 6), -2);
        due("apart(0, 0, 0, 0, -1)", r.apart(0, 0, 0, 0, -1), -2);
        due("apart without A", r.apart(0, 0, 0, 0, 0), -3);
        due("route(0, 4, 9, 9)", r.route(0, 4, 9, 9), 0);
        due("cell(1, 0)", r.cell(1, 0), -6);
        // They pass one another in two rows.
        due("apart(4, 0, 9, 9, 0)", r.apart(4, 0, 9, 9, 0), 0);
        cellsAre("passing near", r, 1, 4, 4, 3, 14, 1, 0);
        due("apart(8, 0, 20, 20, 0)", r.apart(8, 0, 20, 20, 0), 0);
        cellsAre("passing", r, 1, 8, 8, 7, 6, 5, 16, 3, 2, 1, 0);
        due("apart(20, 12, 20, 20, 1)", r.apart(20, 12, 20, 20, 1), -5);
        cellsAre("B stays", r, 1, 8, 8, 7, 6, 5, 16, 3, 2, 1, 0);
        cellsAre("A stays", r, 0, 4, 0, 1, 2, 3, 4);
        due("to where A ends", r.apart(8, 4, 20, 20, 0), -5);
        due("to where A ends in 40 days", r.apart(8, 4, 40, 40, 0), -5);
        due("beside where A ends", r.apart(8, 5, 20, 20, 0), 0);
        due("within 1 of where A ends", r.apart(8, 5, 20, 20, 1), -5);
        due("2 from where A ends", r.apart(8, 6, 20, 20, 1), 0);
        due("within 5", r.apart(11, 9, 20, 20, 5), -5);
        due("within 4", r.apart(11, 9, 20, 20, 4), 0);
        due("land", r.apart(24, 24, 20, 20, 0), -5);
    }

    /** B lies in A's way: it must wait, give way, come back. */
    private static void givingWay() {
        ConvoyRoom r = channel(1);
        r.danger(5, 1, 7);
        due("route(0, 9, 9, 9)", r.route(0, 9, 9, 9), 0);
        // A is at 5 on day 5: B can't be there on days 4 to 6, and passes it by 17 on day 5.
        due("apart(5, 5, 20, 20, 0)", r.apart(5, 5, 20, 20, 0), 7);
        cellsAre("giving way", r, 1, 4, 5, 5, 5, 5, 6, 17, 4, 5);
        due("too few days", r.apart(5, 5, 6, 20, 0), -5);
        due("days enough", r.apart(5, 5, 7, 20, 0), 7);
        // With less FUEL it must stay at 17.
        due("fuel 3", r.apart(5, 5, 20, 3, 0), 14);
        cellsAre("fuel 3", r, 1, 3, 5, 5, 5, 5, 6, 17, 17, 5);
        due("fuel 2", r.apart(5, 5, 40, 2, 0), 21);
        cellsAre("fuel 2", r, 1, 2, 5, 5, 5, 5, 17, 17, 17, 5);
        due("fuel 1", r.apart(5, 5, 20, 1, 0), -5);
        due("fuel 2, 6 days", r.apart(5, 5, 6, 2, 0), -5);
        cellsAre("B is kept", r, 1, 2, 5, 5, 5, 5, 17, 17, 17, 5);
        r.danger(5, 0, 1);
        // Now waiting there costs too: it waits at 6.
        due("moving off", r.apart(5, 5, 20, 20, 0), 8);
        cellsAre("moving off", r, 1, 4, 5, 6, 6, 6, 6, 17, 4, 5);
        r.danger(5, 0, 9);
        due("moving off", r.apart(5, 5, 20, 20, 0), 16);
        due("behind A's start", r.apart(1, 0, 20, 20, 0), -5);
        due("ahead of A", r.apart(2, 11, 20, 20, 0), 7);
        cellsAre("ahead of A", r, 1, 9, 2, 3, 4, 17, 6, 7, 8, 9, 10, 11);
        ConvoyRoom s = channel(2);
        s.route(0, 9, 9, 9);
        due("without danger", s.apart(5, 5, 40, 40, 0), 0);
        // Of ways in 7 days that with the least FUEL, then the one that stays longest.
        cellsAre("without danger", s, 1, 2, 5, 5, 5, 5, 16, 16, 16, 5);
    }

    /** FUEL that lets it go only by the dangerous way, with days to wait. */
    private static void scarceFuel() {
        ConvoyRoom r = channel(3);
        r.danger(2, 1, 6);
        r.danger(2, 0, -1);
        due("route(24, 26, 9, 9)", r.route(24, 26, 9, 9), 0);
        // Across row 1 in 4 moves, or round by row 2, where A ends at 26.
        due("apart fuel 40", r.apart(12, 16, 40, 40, 0), 6);
        cellsAre("apart fuel 40", r, 1, 4, 12, 1, 14, 3, 16);
        due("apart fuel 3", r.apart(12, 16, 40, 3, 0), -5);
        due("apart fuel 4", r.apart(12, 16, 40, 4, 0), 6);
        due("apart days 4", r.apart(12, 16, 4, 40, 0), 6);
        ConvoyRoom s = new ConvoyRoom();
        for (int y = 0; y < 11; y++) {
            s.danger(5, y, 99);
        }
        s.route(0, 0, 0, 0);
        due("round", s.apart(4, 6, 40, 22, 0), 0);
        due("round, fuel", s.cell(1, -2), 22);
        due("through, half of 40", s.apart(4, 6, 40, 20, 0), 99);
        cellsAre("through, half of 40", s, 1, 2, 4, 5, 6);
        due("through, 21", s.apart(4, 6, 40, 21, 0), 99);
        due("through, days", s.apart(4, 6, 21, 40, 0), 99);
    }

    /** Promise 27. */
    private static void word() {
        ConvoyRoom r = channel(4);
        due("word without A", r.word(0, 0), -3);
        due("word(0, 144) without A", r.word(0, 144), -1);
        due("word(-1, 0) without A", r.word(-1, 0), -2);
        due("route(0, 6, 8, 7)", r.route(0, 6, 8, 7), 0);
        due("word(7, 0)", r.word(7, 0), -2);
        due("word(-1, 0)", r.word(-1, 0), -2);
        due("word(0, -1)", r.word(0, -1), -1);
        due("word to land", r.word(0, 48), -5);
        // 2 of 7 FUEL are gone: 5 moves are left, though 6 days are.
        due("word too far", r.word(2, 8), -5);
        cellsAre("as it was", r, 0, 6, 0, 1, 2, 3, 4, 5, 6);
        due("word(2, 7)", r.word(2, 7), 0);
        cellsAre("one more", r, 0, 7, 0, 1, 2, 3, 4, 5, 6, 7);
        due("word back", r.word(3, 0), 0);
        cellsAre("back", r, 0, 6, 0, 1, 2, 3, 2, 1, 0);
        due("word(6, 0)", r.word(6, 0), 0);
        cellsAre("at its end", r, 0, 6, 0, 1, 2, 3, 2, 1, 0);
        // T and F are still those of 8 and 7.
        due("word(4, 5)", r.word(4, 5), 0);
        cellsAre("on again", r, 0, 7, 0, 1, 2, 3, 2, 3, 4, 5);
        due("word(0, 7)", r.word(0, 7), 0);
        ConvoyRoom s = channel(1);
        due("route(0, 4, 6, 40)", s.route(0, 4, 6, 40), 0);
        due("word beyond the days", s.word(2, 7), -5);
        due("word within the days", s.word(2, 6), 0);
        for (int y = 0; y < 4; y++) {
            r.danger(4, y, 5 + y);
        }
        due("the map as it is now", r.word(2, 6), 5);
        due("of what is left", r.word(5, 6), 0);
        due("back over it", r.word(5, 3), 5);
        r.danger(2, 0, -1);
        due("from what is land now", r.word(2, 3), -5);
        due("kept over land", r.word(3, 15), 0);
        cellsAre("kept over land", r, 0, 4, 0, 1, 2, 3, 15);
        due("apart leaves A", r.apart(40, 40, 1, 1, 0), 0);
        due("word leaves B", r.word(4, 3), 0);
        cellsAre("word leaves B", r, 1, 0, 40);
    }

    public static void main(String[] args) {
        danger();
        route();
        dangersOfRoutes();
        longWays();
        apart();
        givingWay();
        scarceFuel();
        word();
        CHECK.finish();
    }
}
