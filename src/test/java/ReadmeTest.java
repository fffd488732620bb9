import java.lang.reflect.Method;
import java.lang.reflect.Modifier;
import java.nio.file.Files;
import java.nio.file.Path;
import java.util.HashSet;
import java.util.List;
import java.util.Set;
import java.util.regex.Matcher;
import java.util.regex.Pattern;
import java.util.stream.Collectors;
import java.util.stream.Stream;

/**
 * That README.md is right: each answer of its example, and that it names each call and each test; and
 * that EDGES.md names tests that there are, for each promise.
 */
public final class ReadmeTest {
    private static final Pattern TEXT = Pattern.compile("^String text = \"([^\"]*)\";.*");
    private static final Pattern LAID = Pattern.compile("^ *x\\.put\\((\\d), i, text\\.charAt\\(i\\)\\);");
    private static final Pattern CALL = Pattern.compile("^x\\.(\\w+)\\(([-0-9, ]*)\\); +// (-?\\d+):.*");
    private static final Pattern ROW = Pattern.compile("^\\| (\\d+) \\| `(\\w+)\\(([a-z, ]*)\\)` \\|.*");
    private static final Check c = new Check();

    private static Method callNamed(String name) {
        for (Method m : BogTown.class.getMethods()) {
            if (m.getDeclaringClass() == BogTown.class && m.getName().equals(name)) return m;
        }
        throw new IllegalStateException("README.md has a call that is none: " + name);
    }

    private static long answer(BogTown x, String name, String numbers) throws Exception {
        Object[] args = numbers.isBlank() ? new Object[0]
            : Stream.of(numbers.split(",")).map(s -> (Object) Integer.valueOf(s.trim())).toArray();
        return ((Number) callNamed(name).invoke(x, args)).longValue();
    }

    /** The example's lines in their order, on one object; which calls it shows. */
    private static Set<String> example(List<String> lines) throws Exception {
        BogTown x = new BogTown();
        Set<String> shown = new HashSet<>();
        String text = "";
        for (String line : lines) {
            Matcher told = TEXT.matcher(line);
            Matcher laid = LAID.matcher(line);
            Matcher call = CALL.matcher(line);
            if (told.matches()) {
                text = told.group(1);
            } else if (laid.matches()) {
                for (int i = 0; i < text.length(); i++) {
                    c.due("put", x.put(Integer.parseInt(laid.group(1)), i, text.charAt(i)), 1);
                }
                shown.add("put");
            } else if (call.matches()) {
                c.due(line, answer(x, call.group(1), call.group(2)), Long.parseLong(call.group(3)));
                shown.add(call.group(1));
            } else {
                c.holds("no call is passed over: " + line, !line.startsWith("x."));
            }
        }
        return shown;
    }

    /** The table of calls, against the document's promises: "## Promise 2: town". */
    private static void calls(List<String> readme, List<String> document) {
        Set<String> rows = new HashSet<>();
        for (String line : readme) {
            Matcher row = ROW.matcher(line);
            if (!row.matches()) continue;
            String name = row.group(2);
            rows.add(name);
            c.holds("its promise: " + line, document.contains("## Promise " + row.group(1) + ": " + name));
            int told = row.group(3).isEmpty() ? 0 : row.group(3).split(",").length;
            c.due("its numbers: " + line, told, callNamed(name).getParameterCount());
        }
        for (Method m : BogTown.class.getDeclaredMethods()) {
            c.holds("a row for " + m.getName(), !Modifier.isPublic(m.getModifiers()) || rows.contains(m.getName()));
        }
    }

    private static void tests(List<String> readme) throws Exception {
        List<String> files;
        try (Stream<Path> all = Files.list(Path.of("src/test/java"))) {
            files = all.map(p -> p.getFileName().toString()).filter(n -> n.endsWith("Test.java")).collect(Collectors.toList());
        }
        for (String file : files) {
            String start = "| " + file.replace(".java", "") + " |";
            c.holds("a row for " + file, readme.stream().anyMatch(line -> line.startsWith(start)));
        }
        long rows = readme.stream().filter(line -> line.matches("^\\| \\w+Test \\|.*")).count();
        c.due("tests that there are", rows, files.size());
    }

    /** Rows as "| 2 | .. | TownEdgesTest: eachCode, allAnew; PlansTest: .. |". */
    private static void edges(List<String> lines) throws Exception {
        Set<Integer> promises = new HashSet<>();
        for (String line : lines) {
            String[] cells = line.split(" *\\| *");
            if (cells.length != 4 || !cells[1].matches("\\d.*")) continue;
            for (String number : cells[1].split(", ")) promises.add(Integer.valueOf(number));
            for (String test : cells[3].split("; ")) {
                Set<String> methods = new HashSet<>();
                for (Method m : Class.forName(test.split(": ")[0]).getDeclaredMethods()) methods.add(m.getName());
                for (String name : test.split(": ")[1].split(", ")) {
                    c.holds("EDGES.md, there is " + name + " in " + test, methods.contains(name));
                }
            }
        }
        c.due("promises in EDGES.md", promises.size(), 32);
    }

    public static void main(String[] args) throws Exception {
        List<String> readme = Files.readAllLines(Path.of("README.md"));
        Set<String> shown = example(readme);
        for (Method m : BogTown.class.getDeclaredMethods()) {
            c.holds("the example has " + m.getName(), !Modifier.isPublic(m.getModifiers()) || shown.contains(m.getName()));
        }
        calls(readme, Files.readAllLines(Path.of("../shared/DOC.md")));
        tests(readme);
        edges(Files.readAllLines(Path.of("EDGES.md")));
        c.end();
    }
}
