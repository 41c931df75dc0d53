import java.io.IOException;
import java.nio.file.Files;
import java.nio.file.Path;
import java.util.ArrayList;
import java.util.Arrays;
import java.util.List;
import java.util.Map;
import java.util.Set;
import java.util.regex.Matcher;
import java.util.regex.Pattern;

/**
 * A run of calls on a new object, as written under src/test/bounds. Runs are parted by empty lines.
 * <pre>
 * # a remark
 * == Promise 2: turn          the document's section for all runs from here on
 * &gt; words of that section that the run is for
 * - what the run looks at
 * turn(0, 59, 4) = 1
 * turn({-1, 4}, 0..1, 0) = UNKNOWN      two calls: (-1, 0, 0) and (4, 1, 0)
 * UNKNOWN = -1                          a constant
 * </pre>
 */
final class BoundsRun {
    private static final Pattern CALL = Pattern.compile("(\\w+)(?:\\((.*)\\))? *= *(.+)");
    private static final Pattern SPAN = Pattern.compile("(-?\\d+)\\.\\.(-?\\d+)");
    private static final long LOST = -1000000000000L;
    private static final Map<String, Long> NAMES = Map.of("UNKNOWN", -1L, "OUTSIDE", -2L, "STATE",
            -3L, "FULL", -4L, "NO", -5L, "NONE", -6L, "MIN", (long) Integer.MIN_VALUE, "MAX",
            (long) Integer.MAX_VALUE);
    private static final Set<String> REFUSALS = Set.of("UNKNOWN", "OUTSIDE", "STATE", "FULL", "NO",
            "-101", "-102");
    private static final Set<String> ASKING = Set.of("ofTurn", "course", "ground", "place", "nearest",
            "close", "comes", "gets", "worst", "mix", "seen", "best", "cell", "told", "about");

    /** One call; args is null for a constant. */
    record Call(int line, String name, int[] args, long due, boolean refused) {
        boolean isConstant() {
            return args == null;
        }

        boolean changesNothing() {
            return !isConstant() && (refused || ASKING.contains(name));
        }

        @Override
        public String toString() {
            return isConstant() ? name
                    : name + Arrays.toString(args).replace('[', '(').replace(']', ')');
        }
    }

    String name;
    final String section;
    final List<String> quotes = new ArrayList<>();
    final List<Call> calls = new ArrayList<>();

    private BoundsRun(String section, String name) {
        this.section = section;
        this.name = name;
    }

    static List<BoundsRun> read(Path file) throws IOException {
        List<BoundsRun> runs = new ArrayList<>();
        String section = null;
        BoundsRun run = null;
        int number = 0;
        for (String raw : Files.readAllLines(file)) {
            number++;
            String line = raw.replaceFirst("(^|\\s)#.*", "").strip();
            if (line.startsWith("== ")) {
                section = line.substring(3);
                run = null;
            } else if (line.isEmpty()) {
                run = raw.isBlank() ? null : run;
            } else {
                if (run == null) {
                    run = new BoundsRun(section, file.getFileName() + " " + number);
                    runs.add(run);
                }
                run.take(line, number);
            }
        }
        return runs;
    }

    private void take(String line, int number) {
        if (line.startsWith("> ")) {
            quotes.add(line.substring(2));
        } else if (line.startsWith("- ")) {
            name += ", " + section + ", " + line.substring(2);
        } else {
            addCalls(line, number);
        }
    }

    private void addCalls(String line, int number) {
        Matcher m = CALL.matcher(line);
        if (!m.matches()) {
            throw new IllegalArgumentException("line " + number + " is no call: " + line);
        }
        List<String> due = values(m.group(3));
        if (m.group(2) == null) {
            calls.add(new Call(number, m.group(1), null, number(due.get(0)), false));
            return;
        }
        List<List<String>> args = new ArrayList<>();
        int count = due.size();
        for (String part : parts(m.group(2))) {
            args.add(values(part));
            count = Math.max(count, values(part).size());
        }
        for (int i = 0; i < count; i++) {
            int[] one = new int[args.size()];
            for (int k = 0; k < one.length; k++) {
                one[k] = Math.toIntExact(number(pick(args.get(k), i, count)));
            }
            String want = pick(due, i, count);
            boolean refused = REFUSALS.contains(want) || want.startsWith("LOST");
            calls.add(new Call(number, m.group(1), one, number(want), refused));
        }
    }

    private static String pick(List<String> values, int i, int count) {
        if (values.size() != 1 && values.size() != count) {
            throw new IllegalArgumentException(values + " are not " + count);
        }
        return values.get(values.size() == 1 ? 0 : i);
    }

    /** Arguments, parted by commas outside of braces. */
    private static List<String> parts(String text) {
        List<String> parts = new ArrayList<>();
        Matcher m = Pattern.compile("\\{[^}]*\\}|[^,{}]+").matcher(text);
        while (m.find()) {
            if (!m.group().isBlank()) {
                parts.add(m.group().strip());
            }
        }
        return parts;
    }

    /** One value, a span "0..3", or some in braces. */
    private static List<String> values(String text) {
        List<String> all = new ArrayList<>();
        for (String part : text.replaceAll("[{}]", "").split(",")) {
            Matcher span = SPAN.matcher(part.strip());
            if (!span.matches()) {
                all.add(part.strip());
                continue;
            }
            int first = Integer.parseInt(span.group(1));
            int last = Integer.parseInt(span.group(2));
            for (int v = first; v != last; v += first < last ? 1 : -1) {
                all.add(Integer.toString(v));
            }
            all.add(Integer.toString(last));
        }
        return all;
    }

    private static long number(String text) {
        if (NAMES.containsKey(text)) {
            return NAMES.get(text);
        }
        return text.startsWith("LOST") ? LOST + Long.parseLong(text.substring(4))
                : Long.parseLong(text);
    }
}
