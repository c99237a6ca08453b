import java.io.IOException;
import java.lang.reflect.Method;
import java.lang.reflect.Modifier;
import java.nio.file.Files;
import java.nio.file.Path;
import java.util.Arrays;
import java.util.LinkedHashMap;
import java.util.Map;
import java.util.Set;
import java.util.TreeSet;
import java.util.regex.Matcher;
import java.util.regex.Pattern;

/** README.md says what the class answers: its example is run, and its rows are compared with the face and with the answers. */
final class ReadmeTest {
    private static final Due due = new Due();
    private static final Map<String, Long> NAMES = names();

    public static void main(String[] args) throws IOException {
        String readme = Files.readString(Path.of("README.md"));
        example(readme);
        numbers(readme);
        calls(readme);
        tests(readme);
        due.end();
    }

    private static Map<String, Long> names() {
        Map<String, Long> names = new LinkedHashMap<>();
        names.put("BAD", (long) SeaGates.BAD);
        names.put("STATE", (long) SeaGates.STATE);
        names.put("FULL", (long) SeaGates.FULL);
        names.put("NULL", (long) Due.NULL);
        names.put("PLACE", (long) Due.PLACE);
        names.put("KIND", (long) Due.KIND);
        names.put("SIZE", (long) Due.SIZE);
        names.put("STORE", (long) Due.STORE);
        return names;
    }

    private static void example(String readme) {
        SeaGates x = new SeaGates();
        Matcher lines = Pattern.compile("(?m)^x\\.(\\w+)\\(([^)]*)\\);\\s+// (-?\\d+):").matcher(readme);
        int run = 0;
        while (lines.find()) {
            run++;
            String taken = lines.group(2).trim();
            int[] a = taken.isEmpty() ? new int[0] : Arrays.stream(taken.split(", ")).mapToInt(Integer::parseInt).toArray();
            due.is("README: " + lines.group(), Calls.answer(x, lines.group(1), a), Long.parseLong(lines.group(3)));
        }
        long all = readme.lines().filter(line -> line.startsWith("x.")).count();
        due.is("lines of the example that were run", run, all);
        due.holds("there is an example", run > 0);
    }

    private static void numbers(String readme) {
        for (Map.Entry<String, Long> name : NAMES.entrySet()) {
            due.holds("README tells " + name, Pattern.compile("(?m)^\\| " + name.getValue() + " \\| `?" + name.getKey() + "`? \\|").matcher(readme).find());
        }
    }

    /** A row for each call, and for nothing else; in its last column are the refusals that the call ever answers, and no others. */
    private static void calls(String readme) {
        Set<String> want = new TreeSet<>();
        for (Method m : SeaGates.class.getDeclaredMethods()) {
            if (Modifier.isPublic(m.getModifiers())) {
                want.add(m.getName() + " " + m.getParameterCount());
            }
        }
        Set<String> got = new TreeSet<>();
        Matcher rows = Pattern.compile("(?m)^\\| `(\\w+)\\(([^)]*)\\)` \\|.*\\|([^|]*)\\|$").matcher(readme);
        while (rows.find()) {
            int count = rows.group(2).isEmpty() ? 0 : rows.group(2).split(", ").length;
            got.add(rows.group(1) + " " + count);
            Set<String> told = new TreeSet<>();
            for (String word : rows.group(3).split("[^A-Z]+")) {
                if (NAMES.containsKey(word)) {
                    told.add(word);
                }
            }
            Set<String> answered = refusalsOf(rows.group(1), count);
            due.holds("README tells that " + rows.group(1) + " refuses by " + answered + ", not by " + told, told.equals(answered));
        }
        due.holds("README has rows for " + want + ", not for " + got, want.equals(got));
    }

    /** The refusals that a call answers to numbers at and beyond the ends, on an empty, a small and a full object. */
    private static Set<String> refusalsOf(String name, int count) {
        int[] numbers = {-1, 0, 1, 8, 61};
        int all = 1;
        for (int k = 0; k < count; k++) {
            all *= numbers.length;
        }
        Set<String> answered = new TreeSet<>();
        for (int fill : new int[] {0, 1, 20}) {
            SeaGates x = filled(fill);
            for (int choice = 0; choice < all; choice++) {
                int[] a = new int[count];
                int left = choice;
                for (int k = 0; k < count; k++) {
                    a[k] = numbers[left % numbers.length];
                    left /= numbers.length;
                }
                long answer = Calls.answer(x, name, a);
                NAMES.forEach((refusal, number) -> {
                    if (answer == number) {
                        answered.add(refusal);
                    }
                });
                // Each from the same state, so that no call is one of too many.
                x = filled(fill);
            }
        }
        return answered;
    }

    private static SeaGates filled(int fill) {
        SeaGates x = new SeaGates();
        if (fill > 0) {
            x.sheet(0, 1, 9);
            x.sheet(1, 2, 8);
        }
        for (int k = 0; k < fill; k++) {
            x.world(1, 0, 0);
            x.gate(9, 0);
            x.ship(1, 1);
        }
        return x;
    }

    private static void tests(String readme) throws IOException {
        try (var files = Files.list(Path.of("src/test/java"))) {
            files.map(file -> file.getFileName().toString()).filter(file -> file.endsWith("Test.java"))
                .forEach(file -> due.holds("README tells of " + file, readme.contains(file.replace(".java", ""))));
        }
    }
}
