import java.io.IOException;
import java.nio.file.Files;
import java.nio.file.Path;
import java.util.ArrayList;
import java.util.List;
import java.util.stream.Stream;

/**
 * The boundary cases of the document, sentence by sentence: the runs of calls under src/test/bounds.
 * Each run is gone through on a new ConvoyRoom and on a PlainRoom; a call that is refused, or that
 * only asks, must leave the room as it was; and the words that a run is for must stand in the
 * document, in which no word that names a boundary may be without a run.
 */
public final class BoundsTest {
    private static final Path RUNS = Path.of("src/test/bounds");
    private static final Path DOCUMENT = Path.of("../shared/DOC.md");
    /** The document promises nothing beyond so many calls on one object. */
    private static final int MOST_CALLS = 512;

    private final Check check = new Check("BoundsTest");
    private final Calls own = new Calls(ConvoyRoom.class);
    private final Calls plain = new Calls(PlainRoom.class);
    private int unchanged = 0;

    private void go(BoundsRun run) {
        Object room = new ConvoyRoom();
        Object model = new PlainRoom();
        int made = 0;
        for (BoundsRun.Call c : run.calls) {
            String at = run.name + ", line " + c.line() + ": " + c;
            if (c.isConstant()) {
                check.due(at, own.constant(c.name()), c.due());
                continue;
            }
            made++;
            check.due(at, own.answer(room, c.name(), c.args()), c.due());
            check.due("PLAIN MODEL, " + at, plain.answer(model, c.name(), c.args()), c.due());
        }
        check.due(run.name + ": calls on one object are too many", made <= MOST_CALLS ? 0 : made, 0);
        for (int i = 0; i < run.calls.size(); i++) {
            if (run.calls.get(i).changesNothing()) {
                leavesAll(run, i);
            }
        }
    }

    /** The room with the call and the room without it must not be told apart by any later call. */
    private void leavesAll(BoundsRun run, int at) {
        for (int half = 0; half < 2; half++) {
            Snapshot with = new Snapshot(own, replay(run, at + 1));
            Snapshot without = new Snapshot(own, replay(run, at));
            List<String> got = with.take(half);
            if (at + 1 + got.size() > MOST_CALLS) {
                continue;
            }
            unchanged++;
            List<String> want = without.take(half);
            String what = run.name + ": " + run.calls.get(at) + " changed something: ";
            for (int i = 0; i < Math.min(got.size(), want.size()); i++) {
                if (!got.get(i).equals(want.get(i))) {
                    check.due(what + want.get(i) + " became " + got.get(i), 1, 0);
                    break;
                }
            }
            check.due(what + "more or less can be asked", got.size(), want.size());
        }
    }

    private Object replay(BoundsRun run, int calls) {
        Object room = new ConvoyRoom();
        for (int i = 0; i < calls; i++) {
            BoundsRun.Call c = run.calls.get(i);
            if (!c.isConstant()) {
                own.answer(room, c.name(), c.args());
            }
        }
        return room;
    }

    private void lookIntoDocument(List<BoundsRun> runs) throws IOException {
        if (!Files.exists(DOCUMENT)) {
            System.out.println("BoundsTest: no document at " + DOCUMENT + ", its words stay unread");
            return;
        }
        DocumentWords words = new DocumentWords(Files.readString(DOCUMENT));
        for (BoundsRun run : runs) {
            check.due(run.name + ": there are no words that it is for", run.quotes.isEmpty() ? 1 : 0, 0);
            for (String quote : run.quotes) {
                boolean there = words.mark(run.section, quote);
                check.due(run.name + ": not in \"" + run.section + "\": " + quote, there ? 0 : 1, 0);
            }
        }
        for (String word : words.unmarked()) {
            check.due("no run is for " + word, 1, 0);
        }
    }

    public static void main(String[] args) throws IOException {
        BoundsTest test = new BoundsTest();
        List<BoundsRun> runs = new ArrayList<>();
        try (Stream<Path> files = Files.list(RUNS)) {
            for (Path file : files.sorted().toList()) {
                runs.addAll(BoundsRun.read(file));
            }
        }
        for (BoundsRun run : runs) {
            test.go(run);
        }
        test.lookIntoDocument(runs);
        System.out.println("BoundsTest: " + runs.size() + " runs, " + test.unchanged
                + " times looked whether all stayed as it was");
        test.check.finish();
    }
}
