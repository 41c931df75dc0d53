import java.util.ArrayList;
import java.util.Arrays;
import java.util.List;

/**
 * All that can be asked of a room, as texts. Some is only told by calls that change the room, so a
 * room is of no use afterwards; two halves, because one object answers 512 calls at most.
 */
final class Snapshot {
    private final Calls calls;
    private final Object room;
    private final List<String> answers = new ArrayList<>();

    Snapshot(Calls calls, Object room) {
        this.calls = calls;
        this.room = room;
    }

    List<String> take(int half) {
        if (half == 0) {
            plans();
            lurker();
            escorts();
            logs();
            ships();
        } else {
            routes();
            map();
        }
        return answers;
    }

    private long ask(String name, int... args) {
        long answer = calls.answer(room, name, args);
        answers.add(name + Arrays.toString(args) + " = " + answer);
        return answer;
    }

    private void plans() {
        for (int what = 0; what <= 7; what++) {
            ask("about", what);
        }
        for (int plan = 0; plan < 4; plan++) {
            long turns = ask("about", 10 + plan);
            for (int i = 0; i < turns; i++) {
                ask("ofTurn", plan, i, 0);
                ask("ofTurn", plan, i, 1);
            }
        }
    }

    private void lurker() {
        for (int plan = 0; plan < 4; plan++) {
            ask("comes", plan);
            ask("gets", plan, 0);
            ask("gets", plan, 30);
            ask("gets", plan, 600);
        }
        ask("worst", 30, 1, 2, 4, 8, 0);
        long speed = ask("centre", 1);
        ask("comes", 0);
        ask("centre", (int) speed);
    }

    private void escorts() {
        long posts = calls.answer(room, "about", 5);
        for (int i = 0; i < posts; i++) {
            ask("seen", 1 << i, 50);
            ask("seen", 1 << i, 10);
        }
    }

    private void logs() {
        for (int what = 0; what < 4; what++) {
            ask("told", 0, 0, 10, what);
        }
        ask("told", 100000, -100000, 20, 0);
        ask("told", -100000, 100000, 1, 0);
    }

    /** Twelve TURNS, so that all MISSES show, also of numbers that THE PLAN did not have. */
    private void ships() {
        long count = calls.answer(room, "about", 1);
        if (count == 0) {
            return;
        }
        places(count, 0, 600);
        int plan = (int) calls.answer(room, "about", 0);
        ask("clear", plan);
        for (int i = 0; i < 12; i++) {
            ask("turn", plan, 5 * i, i % 3 == 0 ? 4 : i % 3 - 3);
        }
        places(count, 60, 350);
    }

    private void places(long count, int... minutes) {
        for (int i = 0; i < count; i++) {
            for (int minute : minutes) {
                ask("place", i, minute, 0);
                ask("place", i, minute, 1);
            }
        }
    }

    private void routes() {
        for (int which = 0; which < 2; which++) {
            if (ask("cell", which, 0) < 0) {
                continue;
            }
            for (int i = -2; i <= 40; i++) {
                ask("cell", which, i);
            }
        }
    }

    /** How far ROUTE A could go on tells with what days and FUEL it was found. */
    private void map() {
        for (int to : new int[] {143, 11, 132, 66, 13, 0}) {
            ask("word", 0, to);
        }
        for (int c = 0; c < 144; c++) {
            ask("danger", c % 12, c / 12, 0);
        }
    }
}
