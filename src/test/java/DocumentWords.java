import java.util.ArrayList;
import java.util.LinkedHashMap;
import java.util.List;
import java.util.Map;
import java.util.regex.Matcher;
import java.util.regex.Pattern;

/** The document's sections, and which of their words some run is for. */
final class DocumentWords {
    /** Numbers, refusals, and words that say where something begins, ends, or goes first. */
    private static final Pattern BOUNDARY = Pattern.compile("-?\\d+|\\b(?:UNKNOWN|OUTSIDE|STATE|FULL"
            + "|NO|NONE|LOST|none|nowhere|nothing|never|not|no|first|last|least|greatest|most|fewest"
            + "|nearer|farther|below|above|ahead|behind|till|already|anew|alike|all|several|latest"
            + "|within|ever|stays|kept|left|any)\\b");
    /** What the interface calls its parts, and the whole number of the calls' headings. */
    private static final Pattern NO_PROMISE = Pattern.compile("======== \\d|---- \\d"
            + "|Ahead of the calls [^.]*\\.|`[^`]*`:");

    private final Map<String, String> texts = new LinkedHashMap<>();
    private final Map<String, boolean[]> marks = new LinkedHashMap<>();

    DocumentWords(String document) {
        for (String part : document.split("(?m)^## ")) {
            String title = part.lines().findFirst().orElse("").strip();
            String text = plain(part.substring(Math.min(part.length(), title.length())));
            texts.put(title, text);
            marks.put(title, new boolean[text.length()]);
        }
    }

    private static String plain(String text) {
        return text.replace("```text", "").replace("```", "").replaceAll("\\s+", " ");
    }

    /** False if the section does not have these words. */
    boolean mark(String title, String quote) {
        String text = texts.get(title);
        String words = plain(quote).strip();
        int at = text == null ? -1 : text.indexOf(words);
        for (int i = at; at >= 0 && i < at + words.length(); i++) {
            marks.get(title)[i] = true;
        }
        return at >= 0;
    }

    /** Boundary words of "Terms" and of the promises that no run is for, with what is about them. */
    List<String> unmarked() {
        List<String> found = new ArrayList<>();
        for (Map.Entry<String, String> section : texts.entrySet()) {
            String title = section.getKey();
            if (!title.equals("Terms") && !title.startsWith("Promise ")) {
                continue;
            }
            String text = section.getValue();
            boolean[] marked = marks.get(title);
            Matcher skip = NO_PROMISE.matcher(text);
            while (skip.find()) {
                java.util.Arrays.fill(marked, skip.start(), skip.end(), true);
            }
            Matcher m = BOUNDARY.matcher(text);
            while (m.find()) {
                if (!marked[m.start()]) {
                    int end = Math.min(text.length(), m.end() + 30);
                    found.add("\"" + m.group() + "\" in \"" + title + "\": .. "
                            + text.substring(Math.max(0, m.start() - 30), end) + " ..");
                }
            }
        }
        return found;
    }
}
