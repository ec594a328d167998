import java.lang.reflect.Method;
import java.nio.file.Files;
import java.nio.file.Path;
import java.util.HashMap;
import java.util.List;
import java.util.Map;
import java.util.TreeSet;
import java.util.regex.Matcher;
import java.util.regex.Pattern;
import java.util.stream.Stream;

/** README.md: its example is called as it stands there; it names every call of the face and every test. */
public final class ReadmeTest {
    private static final Due due = new Due();
    private static final Pattern CALL = Pattern.compile("x\\.(\\w+)\\(([^)]*)\\);(?: +// (-?\\d+))?");

    public static void main(String[] args) throws Exception {
        String page = Files.readString(Path.of("README.md"));
        Map<String, Method> face = new HashMap<>();
        for (Method m : SorryToWin.class.getDeclaredMethods()) {
            if (java.lang.reflect.Modifier.isPublic(m.getModifiers())) {
                face.put(m.getName(), m);
            }
        }
        example(page, face);
        TreeSet<String> told = new TreeSet<>();
        for (String line : page.split("\n")) {
            Matcher name = Pattern.compile("`(\\w+)`").matcher(line);
            while (line.startsWith("| ") && name.find()) {
                due.is("told once: " + name.group(1), told.add(name.group(1)), true);
            }
        }
        due.is("the calls are " + told, told.equals(new TreeSet<>(face.keySet())), true);
        try (Stream<Path> files = Files.list(Path.of("src/test/java"))) {
            for (Path file : (Iterable<Path>) files::iterator) {
                String name = file.getFileName().toString().replace(".java", "");
                due.is("names " + name, page.contains("`" + name + "`"), true);
            }
        }
        due.close("ReadmeTest");
    }

    private static void example(String page, Map<String, Method> face) throws Exception {
        SorryToWin x = new SorryToWin();
        Map<String, Integer> named = new HashMap<>();
        int answers = 0;
        Matcher call = CALL.matcher(page);
        while (call.find()) {
            Method m = face.get(call.group(1));
            List<String> words = List.of(call.group(2).isEmpty() ? new String[0] : call.group(2).split(", "));
            Object[] given = words.stream().map(w -> named.containsKey(w) ? named.get(w) : Integer.decode(w)).toArray();
            long got = ((Number) m.invoke(x, given)).longValue();
            if (m.getName().equals("sale")) {
                named.put("sale", (int) got);
            }
            if (call.group(3) != null) {
                answers++;
                due.is(call.group(), got, Long.parseLong(call.group(3)));
            }
        }
        due.is("answers in the example", answers, 5);
    }
}
