import java.io.IOException;
import java.lang.reflect.Constructor;
import java.lang.reflect.Executable;
import java.lang.reflect.Field;
import java.lang.reflect.Method;
import java.lang.reflect.Modifier;
import java.nio.file.Files;
import java.nio.file.Path;
import java.util.Set;
import java.util.TreeSet;
import java.util.regex.Matcher;
import java.util.regex.Pattern;

/** The public face is the document's; the source keeps to the rules that can be looked for. */
public final class FaceTest {
    private static final Check CHECK = new Check("FaceTest");
    private static final Path SOURCE = Path.of("src/main/java/ConvoyRoom.java");
    private static final Path DOCUMENT = Path.of("../shared/DOC.md");

    private static final String[] FACE = {
        "int turn 3", "int clear 1", "int ofTurn 3", "int course 2", "long ground 3", "int steer 1",
        "int ship 4", "int miss 3", "int fog 2", "long place 3", "long nearest 2", "int close 2",
        "int centre 1", "int lurk 4", "int comes 1", "int gets 2", "int worst 6", "int mix 3",
        "int post 3", "int seen 2", "int best 2", "int danger 3", "int route 4", "int apart 5",
        "int cell 2", "int word 2", "int sight 3", "int forget 0", "long told 4", "int about 1"};

    private static final String[] CONSTANTS = {"UNKNOWN -1", "OUTSIDE -2", "STATE -3", "FULL -4",
        "NO -5", "NONE -6", "LOST -1000000000000"};

    private static void must(String what, boolean holds) {
        CHECK.due(what, holds ? 1 : 0, 1);
    }

    private static void face() throws IllegalAccessException {
        int mods = ConvoyRoom.class.getModifiers();
        must("the class is public and final", Modifier.isPublic(mods) && Modifier.isFinal(mods));
        Set<String> methods = new TreeSet<>();
        Set<String> constants = new TreeSet<>();
        for (Method m : ConvoyRoom.class.getDeclaredMethods()) {
            if (Modifier.isPrivate(m.getModifiers())) {
                continue;
            }
            must(m + " is public and no static", m.getModifiers() == Modifier.PUBLIC);
            for (Class<?> p : m.getParameterTypes()) {
                must(m + " takes ints", p == int.class);
            }
            methods.add(m.getReturnType() + " " + m.getName() + " " + m.getParameterCount());
        }
        must("methods " + methods, methods.equals(new TreeSet<>(Set.of(FACE))));
        for (Field f : ConvoyRoom.class.getDeclaredFields()) {
            if (Modifier.isPrivate(f.getModifiers())) {
                continue;
            }
            constants.add(f.getName() + " " + f.get(null));
            must(f + " has its type", f.getType() == (f.getName().equals("LOST") ? long.class
                    : int.class));
        }
        must("constants " + constants, constants.equals(new TreeSet<>(Set.of(CONSTANTS))));
        Constructor<?>[] made = ConvoyRoom.class.getDeclaredConstructors();
        must("one public constructor", made.length == 1 && made[0].getParameterCount() == 0
                && Modifier.isPublic(made[0].getModifiers()));
    }

    /** Each line of the document's face stands in the source as it is, in the document's order. */
    private static void document() throws IOException {
        String text = Files.readString(DOCUMENT);
        int start = text.indexOf("```java");
        int end = text.indexOf("```", start + 3);
        must("the document has its face", start >= 0 && end > start);
        String source = Files.readString(SOURCE);
        int at = 0;
        int lines = 0;
        for (String line : text.substring(start, end).split("\n")) {
            String words = line.strip();
            if (!words.startsWith("public ")) {
                continue;
            }
            boolean isField = words.contains(" = ");
            String due = isField || words.endsWith("{") ? words : words.replace(";", " {");
            int found = source.indexOf(due, at);
            must("in its place: " + due, found >= 0);
            at = Math.max(at, found);
            lines++;
        }
        CHECK.due("lines of the face", lines, FACE.length + 4);
        headings(text, source);
    }

    /** What the interface says ahead of some calls stands ahead of them, and of no others. */
    private static void headings(String text, String source) {
        Matcher m = Pattern.compile("Ahead of the calls (.*?) the interface says: (---- .*?)\\.")
                .matcher(text);
        int parts = 0;
        while (m.find()) {
            parts++;
            int at = source.indexOf("// " + m.group(2) + "\n");
            int next = source.indexOf("// ----", at + 1);
            must("there is " + m.group(2), at >= 0 && next > at);
            for (String call : m.group(1).replace("`", "").split(", ")) {
                int there = source.indexOf(" " + call + "(", at);
                must(call + " stands below " + m.group(2), there >= 0 && there < next);
            }
        }
        CHECK.due("parts of the interface", parts, 5);
    }

    /** Rules 1, 2, 5 and 11, as far as they show in the classes. */
    private static void classes() {
        Class<?>[] inside = ConvoyRoom.class.getDeclaredClasses();
        must("at most twelve classes", inside.length + 1 <= 12);
        look(ConvoyRoom.class);
        for (Class<?> c : inside) {
            must(c + " is static", Modifier.isStatic(c.getModifiers()));
            look(c);
        }
    }

    private static void look(Class<?> c) {
        Set<String> faceNames = new TreeSet<>();
        for (String f : FACE) {
            faceNames.add(f.split(" ")[1]);
        }
        int fields = 0;
        for (Field f : c.getDeclaredFields()) {
            boolean isStatic = Modifier.isStatic(f.getModifiers());
            fields += isStatic ? 0 : 1;
            must(f + " is final if static", !isStatic || Modifier.isFinal(f.getModifiers()));
            must(f + " is of a type that a static may have", !isStatic || Set.of(int.class,
                    long.class, int[].class).contains(f.getType()));
        }
        must(c + " has at most twenty fields", fields <= 20);
        for (Method m : c.getDeclaredMethods()) {
            parameters(m);
            must(m + " bears no name of the face", Modifier.isPublic(m.getModifiers())
                    || !faceNames.contains(m.getName()));
        }
        for (Constructor<?> m : c.getDeclaredConstructors()) {
            parameters(m);
        }
    }

    private static void parameters(Executable m) {
        must(m + " takes at most seven", m.getParameterCount() <= 7);
    }

    /** Rules 3, 4, 6 and 13, as far as they show in words. */
    private static void words() throws IOException {
        String text = Files.readString(SOURCE);
        must("signs 1 to 127", text.chars().allMatch(c -> c > 0 && c < 128));
        String code = text.replaceAll("(?s)/\\*.*?\\*/", "").replaceAll("//[^\n]*", "");
        String[] forbidden = {"throw", "throws", "try", "catch", "finally", "synchronized",
            "assert", "import", "package", "double", "float", "protected", "volatile",
            "transient", "native", "var", "Object", "Random", "Thread", "System", "Exception", "Error", "hashCode",
            "toString", "yield", "sealed", "record"};
        for (String word : forbidden) {
            must("no word " + word, !Pattern.compile("\\b" + word + "\\b").matcher(code).find());
        }
        must("no lambda", !code.contains("->"));
        must("no method reference", !code.contains("::"));
        must("nothing exact", !code.contains("Exact"));
        must("no texts", code.indexOf('"') < 0);
        must("no loop without an end", !code.contains("while (true") && !code.contains(";;"));
        library(code);
    }

    /** Rules 3 and 4: own classes, and of the library the functions that are listed alone. */
    private static void library(String code) {
        Set<String> types = new TreeSet<>(Set.of("ConvoyRoom", "Math", "Integer"));
        for (Class<?> c : ConvoyRoom.class.getDeclaredClasses()) {
            types.add(c.getSimpleName());
        }
        Matcher type = Pattern.compile("\\b[A-Z]\\w*[a-z]\\w*").matcher(code);
        while (type.find()) {
            must("known type " + type.group(), types.contains(type.group()));
        }
        Set<String> functions = Set.of("Math.abs", "Math.max", "Math.min", "Integer.bitCount");
        Matcher used = Pattern.compile("\\b(Math|Integer)\\b[.\\w]*").matcher(code);
        while (used.find()) {
            must("known function " + used.group(), functions.contains(used.group()));
        }
    }

    /** Rule 11: methods of some sixty lines at most, told by the brace that closes them. */
    private static void lengths() throws IOException {
        int[] opened = new int[9];
        int number = 0;
        for (String line : Files.readAllLines(SOURCE)) {
            number++;
            must("line " + number + " is at most 100 wide", line.length() <= 100);
            int indent = line.length() - line.stripLeading().length();
            if (indent != 4 && indent != 8) {
                continue;
            }
            if (line.endsWith("{")) {
                opened[indent] = line.contains(" class ") ? number + 10000 : number;
            } else if (line.endsWith("}")) {
                must("the method that ends at " + number + " is short",
                        number - opened[indent] < 60);
            }
        }
    }

    public static void main(String[] args) throws Exception {
        face();
        document();
        classes();
        words();
        lengths();
        CHECK.finish();
    }
}
