import java.io.IOException;
import java.lang.reflect.Method;
import java.lang.reflect.Modifier;
import java.nio.file.Files;
import java.nio.file.Path;
import java.util.Arrays;
import java.util.HashSet;
import java.util.Set;
import java.util.regex.Matcher;
import java.util.regex.Pattern;
import java.util.stream.Stream;

/** What README.md shows must hold: each answer in it, and that no call and no test is left out. */
public final class ReadmeTest {
    private static final Check CHECK = new Check("ReadmeTest");
    private static final Path PAGE = Path.of("README.md");
    private static final Pattern BLOCK = Pattern.compile("(?s)```java\\n(.*?)```");
    private static final Pattern CALL =
            Pattern.compile("room\\.(\\w+)\\(([-0-9, ]*)\\); +// (-?\\d+)(?:: .*)?");

    private static void must(String what, boolean holds) {
        CHECK.due(what, holds ? 1 : 0, 1);
    }

    private static int[] numbers(String text) {
        return Arrays.stream(text.split(",")).map(String::strip).filter(t -> !t.isEmpty())
                .mapToInt(Integer::parseInt).toArray();
    }

    /** Each block is a run of calls on a new room. */
    private static Set<String> answers(String page) {
        Set<String> called = new HashSet<>();
        Calls calls = new Calls(ConvoyRoom.class);
        Matcher block = BLOCK.matcher(page);
        while (block.find()) {
            ConvoyRoom room = new ConvoyRoom();
            String[] lines = block.group(1).split("\n");
            must("a block begins with a new room",
                    lines[0].equals("ConvoyRoom room = new ConvoyRoom();"));
            for (int i = 1; i < lines.length; i++) {
                Matcher m = CALL.matcher(lines[i]);
                must("a call with its answer: " + lines[i], m.matches());
                if (m.matches()) {
                    long got = calls.answer(room, m.group(1), numbers(m.group(2)));
                    CHECK.due(lines[i], got, Long.parseLong(m.group(3)));
                    called.add(m.group(1));
                }
            }
        }
        return called;
    }

    public static void main(String[] args) throws IOException {
        String page = Files.readString(PAGE);
        Set<String> called = answers(page);
        for (Method m : ConvoyRoom.class.getDeclaredMethods()) {
            if (Modifier.isPublic(m.getModifiers())) {
                must("README.md shows " + m.getName(), called.contains(m.getName()));
            }
        }
        try (Stream<Path> files = Files.list(Path.of("src/test/java"))) {
            for (Path file : files.sorted().toList()) {
                String name = file.getFileName().toString().replace(".java", "");
                must("README.md names " + name, !name.endsWith("Test")
                        || page.contains("`" + name + "`"));
            }
        }
        must("README.md says how to run the tests", page.contains(".ci/run"));
        CHECK.finish();
    }
}
