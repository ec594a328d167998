import java.nio.file.Files;
import java.nio.file.Path;
import java.util.ArrayList;
import java.util.HashMap;
import java.util.List;
import java.util.Map;
import java.util.regex.Matcher;
import java.util.regex.Pattern;

/** A rough look at src/main/java/SorryToWin.java by ../shared/LANGUAGE.md; the argument is the file's path. */
public final class RulesTest {
    private static final Due due = new Due();
    private static final String[] FACE = {"feed", "end", "fault", "sale", "told", "truth", "change", "worth", "table", "bid",
        "seat", "bids", "cases", "gain", "won", "less", "best", "judge", "find", "by", "bar", "telling", "near", "nearGain",
        "asOne", "lay", "open", "leaves", "learn", "learned", "got", "count"};
    private static final String[] BARRED = {"->", "::", "Exact(", "synchronized", "assert", "finally", "HashMap", "System.out",
        "System.err", "currentTimeMillis", "nanoTime", "Random", "Thread", "Optional", "Stream", "package ", "var ", "sealed",
        "record ", "catch", "protected", "static {", "ArrayIndexOutOfBounds", "NullPointer", "ClassCast", "NegativeArray",
        "ArrayStore", "import java.util.*", "getMessage", "hashCode", "equals(Object", "toString()", "instanceof"};
    private static final Pattern METHOD =
        Pattern.compile("^ +(?:public |private |static |final )*[\\w\\[\\]]+ (\\w+)\\(([^)]*)\\)[^;=]*\\{$");

    public static void main(String[] args) throws Exception {
        String file = args.length > 0 ? args[0] : "src/main/java/SorryToWin.java";
        List<String> lines = Files.readAllLines(Path.of(file));
        face();
        String code = bare(lines);
        for (String b : BARRED) {
            due.is("no '" + b + "'", code.contains(b), false);
        }
        due.is("one import", count(code, "import "), 1);
        due.is("classes", count(code, "class ") <= 12, true);
        for (char c : code.toCharArray()) {
            if (c > 126) {
                due.is("a sign beyond 126: " + c, true, false);
            }
        }
        methods(code.split("\n", -1));
        depth(code.split("\n", -1));
        makes(code.split("\n", -1));
        due.close("RulesTest");
    }

    /** By the class itself: what is public is the face and no more, and nothing is left without private. */
    private static void face() {
        List<String> names = new ArrayList<>();
        for (java.lang.reflect.Method m : SorryToWin.class.getDeclaredMethods()) {
            int mod = m.getModifiers();
            boolean isPublic = java.lang.reflect.Modifier.isPublic(mod);
            if (isPublic) {
                names.add(m.getName());
            }
            due.is(m.getName() + " is private or of the face",
                    isPublic ? List.of(FACE).contains(m.getName()) : java.lang.reflect.Modifier.isPrivate(mod)
                    && !List.of(FACE).contains(m.getName()), true);
        }
        due.is("public methods", names.size(), FACE.length);
        int fields = 0;
        for (java.lang.reflect.Field f : SorryToWin.class.getDeclaredFields()) {
            int mod = f.getModifiers();
            boolean constant = java.lang.reflect.Modifier.isStatic(mod);
            fields += constant ? 0 : 1;
            boolean ofFace = f.getName().equals("NONE") || f.getName().equals("HIDDEN");
            due.is(f.getName(), ofFace ? java.lang.reflect.Modifier.isPublic(mod) : java.lang.reflect.Modifier.isPrivate(mod),
                    true);
            due.is(f.getName() + " if static is final", !constant || java.lang.reflect.Modifier.isFinal(mod), true);
        }
        due.is("fields", fields <= 20, true);
        due.is("constructors", SorryToWin.class.getDeclaredConstructors().length, 1);
    }

    /** Without comments. */
    private static String bare(List<String> lines) {
        StringBuilder b = new StringBuilder();
        for (String line : lines) {
            String t = line.trim();
            b.append(t.startsWith("/*") || t.startsWith("*") || t.startsWith("//") ? "" : line).append('\n');
        }
        return b.toString();
    }

    private static int count(String code, String what) {
        return code.split(Pattern.quote(what), -1).length - 1;
    }

    private static void methods(String[] lines) {
        int found = 0;
        for (int i = 0; i < lines.length; i++) {
            Matcher m = METHOD.matcher(lines[i]);
            if (!m.matches()) {
                continue;
            }
            found++;
            String indent = lines[i].substring(0, lines[i].indexOf(lines[i].trim()));
            int end = i;
            while (!lines[end].equals(indent + "}")) {
                end++;
            }
            due.is(m.group(1) + " is short", end - i <= 60, true);
            due.is(m.group(1) + " has few parameters", m.group(2).split(",").length <= 7, true);
            boolean nested = indent.length() > 4;
            due.is(m.group(1) + " inside has a name of its own", nested && List.of(FACE).contains(m.group(1)), false);
            int loops = 0;
            for (int k = i; k <= end; k++) {
                loops += lines[k].contains("while (") || lines[k].contains("do {") ? 1 : 0;
            }
            due.is(m.group(1) + " counts its loops", loops, 0);
        }
        due.is("methods found", found > 60, true);
    }

    /** No call stands more than eight deep; methods of one name are taken as one, which can only look deeper. */
    private static void depth(String[] lines) {
        Map<String, StringBuilder> bodies = new HashMap<>();
        StringBuilder body = new StringBuilder();
        for (String line : lines) {
            Matcher m = METHOD.matcher(line);
            if (m.matches()) {
                body = bodies.computeIfAbsent(m.group(1), name -> new StringBuilder());
            } else {
                body.append(line).append('\n');
            }
        }
        for (String name : FACE) {
            due.is(name + " stands in the source", bodies.containsKey(name), true);
            int deep = deepest(bodies, name, 1);
            due.is(name + " goes " + deep + " deep, at most eight", deep <= 8, true);
        }
    }

    private static int deepest(Map<String, StringBuilder> bodies, String name, int at) {
        int most = at;
        Matcher call = Pattern.compile("\\b(\\w+)\\(").matcher(bodies.getOrDefault(name, new StringBuilder()));
        while (at < 20 && call.find()) {
            if (bodies.containsKey(call.group(1))) {
                most = Math.max(most, deepest(bodies, call.group(1), at + 1));
            }
        }
        return most;
    }

    /** Objects are made with the objects that keep them, but for a SALE's next draft. */
    private static void makes(String[] lines) {
        int others = 0;
        for (String line : lines) {
            boolean field = line.matches(" +(private )?(final )?[\\w\\[\\]]+ \\w+ = new .*;") && !line.startsWith("            ");
            if (line.contains(" new ") && !field && !line.contains("throw new NoSuchElementException")) {
                others++;
            }
        }
        due.is("other places that make objects", others, 1);
    }
}
