import java.io.IOException;
import java.nio.file.Files;
import java.nio.file.Path;
import java.util.List;
import java.util.Random;
import java.util.Set;
import java.util.TreeSet;
import java.util.regex.Matcher;
import java.util.regex.Pattern;
import java.util.stream.Collectors;
import java.util.stream.Stream;

/** What README.md tells of the class and its tests is true. It is run from the top of the checkout, by .ci/run too. */
public final class ReadmeTest {
    private static final Pattern EXAMPLE = Pattern.compile("yard\\.(\\w+)\\(([^)]*)\\); +// (-?\\d+|[A-Z]+): .*");
    private static final Pattern CALL_ROW = Pattern.compile("\\| `(\\w+)\\(([^)]*)\\)` \\| (\\d+) \\| .*");
    private static final Pattern ACT_ROW = Pattern.compile("\\| (\\d+) \\| .* \\| .* \\| ([A-Z, ]+) \\|");
    private static final Pattern TEST_ROW = Pattern.compile("\\| `(\\w+Test)` \\| .*");
    /** As the document numbers its promises. */
    private static final List<String> CALLS = List.of("horse 3", "wagon 2", "lead 2", "empty 2", "tear 2", "hang 2",
        "act 4", "came 0", "task 4", "clear 0", "day 0", "book 2", "horseTells 2", "shed 1", "same 2", "count 1");
    private static final String[] FAULTS = {"", "NONE", "SIZE", "CAST", "STORE", "PLACE", "RAISED"};

    public static void main(String[] args) throws IOException {
        List<String> readme = Files.readAllLines(Path.of("README.md"));
        example(readme);
        calls(readme);
        acts(readme);
        tests(readme);
        Due.end();
    }

    private static void example(List<String> readme) {
        RidingYard yard = new RidingYard();
        int told = 0;
        for (String line : readme) {
            Matcher m = EXAMPLE.matcher(line);
            if (m.matches()) {
                told++;
                int[] n = Stream.of(m.group(2).split(", *")).filter(s -> !s.isEmpty())
                    .mapToInt(Integer::parseInt).toArray();
                Due.answers(yard, answer(m.group(3)), m.group(1), n);
            } else {
                Due.due("an example without its answer: " + line, line.startsWith("yard.") ? 1 : 0, 0);
            }
        }
        Due.due("there are examples", told > 0 ? 1 : 0, 1);
    }

    private static int answer(String told) {
        switch (told) {
            case "BAD": return Due.BAD;
            case "OUTSIDE": return Due.OUTSIDE;
            case "FULL": return Due.FULL;
            default: return Integer.parseInt(told);
        }
    }

    private static void calls(List<String> readme) {
        int row = 0;
        for (String line : readme) {
            Matcher m = CALL_ROW.matcher(line);
            if (m.matches()) {
                int parameters = m.group(2).isEmpty() ? 0 : m.group(2).split(",").length;
                boolean due = row < CALLS.size() && CALLS.get(row).equals(m.group(1) + " " + parameters);
                Due.due("row " + row + " of the calls: " + line, due ? 1 : 0, 1);
                Due.due("the promise of " + m.group(1), Integer.parseInt(m.group(3)), row + 2);
                row++;
            }
        }
        Due.due("rows of the calls", row, CALLS.size());
    }

    private static void acts(List<String> readme) {
        List<Set<String>> met = faultsMet();
        int row = 0;
        for (String line : readme) {
            Matcher m = ACT_ROW.matcher(line);
            if (m.matches()) {
                Due.due("row of act", Integer.parseInt(m.group(1)), row);
                boolean due = row < met.size() && met.get(row).equals(Set.of(m.group(2).split(", ")));
                Due.due("faults of act " + row + " are told", due ? 1 : 0, 1);
                row++;
            }
        }
        Due.due("rows of the acts", row, met.size());
    }

    /** Which faults each act meets in many runs. */
    private static List<Set<String>> faultsMet() {
        List<Set<String>> met = Stream.generate(() -> (Set<String>) new TreeSet<String>()).limit(18)
            .collect(Collectors.toList());
        Random random = new Random(3);
        for (int yards = 0; yards < 200; yards++) {
            RidingYard x = new RidingYard();
            for (int calls = 0; calls < 100; calls++) {
                x.horse(random.nextInt(10), random.nextInt(3), 1);
                x.wagon(random.nextInt(6), 1);
                x.hang(random.nextInt(6), 1);
                int act = random.nextInt(18);
                int answer = x.act(act, random.nextInt(6), random.nextInt(5) - 1, random.nextInt(5) - 1);
                if (answer < 0) {
                    met.get(act).add(FAULTS[-10 - answer]);
                }
            }
        }
        return met;
    }

    private static void tests(List<String> readme) throws IOException {
        Set<String> told = new TreeSet<>();
        for (String line : readme) {
            Matcher m = TEST_ROW.matcher(line);
            if (m.matches()) {
                told.add(m.group(1) + ".java");
            }
        }
        try (Stream<Path> files = Files.list(Path.of("src/test/java"))) {
            Set<String> there = files.map(f -> f.getFileName().toString()).filter(f -> f.endsWith("Test.java"))
                .collect(Collectors.toCollection(TreeSet::new));
            Due.due("told are " + told + ", there are " + there, told.equals(there) ? 1 : 0, 1);
        }
    }
}
