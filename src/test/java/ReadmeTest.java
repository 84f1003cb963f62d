import java.io.IOException;
import java.lang.reflect.Method;
import java.lang.reflect.Modifier;
import java.nio.file.Files;
import java.nio.file.Path;
import java.util.HashSet;
import java.util.Set;
import java.util.regex.Matcher;
import java.util.regex.Pattern;
import java.util.stream.Stream;

/** README.md held against the class: the answers of its example, its numbers of places, its calls, its tests. */
public final class ReadmeTest {
    private static final Path PAGE = Path.of("README.md");
    private static final Path TESTS = Path.of("src/test/java");
    private static final Pattern EXAMPLE = Pattern.compile("(?s)```java\n(.*?)```");
    private static final Pattern CALL = Pattern.compile("pods\\.(\\w+)\\(([^)]*)\\);\\s+// (-?\\w+).*");
    private static final Pattern TELL = Pattern.compile("for \\(char c : \"([^\"]*)\"\\.toCharArray\\(\\)\\) pods\\.write\\(c\\);");
    private static final Pattern PLACES = Pattern.compile("(?m)^\\| ([246]) +\\| (\\d+) +\\| (\\d+) +\\| (\\d+) +\\| (\\d+) +\\|$");
    private static final Pattern ROW = Pattern.compile("(?m)^\\| `(\\w+)\\(([^)]*)\\)` \\|");
    private static int wrong = 0;

    private static void holds(boolean kept, String what) {
        if (kept) return;
        wrong++;
        System.out.println("README.md: " + what);
    }

    private static Method named(String name) {
        for (Method m : TierPods.class.getDeclaredMethods())
            if (Modifier.isPublic(m.getModifiers()) && m.getName().equals(name)) return m;
        return null;
    }

    private static int numbersIn(String args) { return args.isBlank() ? 0 : args.split(",").length; }

    private static void exampleCall(TierPods pods, Matcher line) throws ReflectiveOperationException {
        Method call = named(line.group(1));
        boolean isCall = call != null && call.getParameterCount() == numbersIn(line.group(2));
        holds(isCall, "no such call: " + line.group());
        if (!isCall) return;
        Object[] numbers = new Object[call.getParameterCount()];
        for (int x = 0; x < numbers.length; x++) numbers[x] = Integer.parseInt(line.group(2).split(",")[x].trim());
        Object got = call.invoke(pods, numbers);
        holds(got.equals(Boundaries.number(line.group(3))), line.group() + " answered " + got);
    }

    private static void example(String page) throws ReflectiveOperationException {
        Matcher example = EXAMPLE.matcher(page);
        boolean found = example.find();
        holds(found, "it has no example");
        if (!found) return;
        TierPods pods = new TierPods();
        int calls = 0;
        for (String line : example.group(1).split("\n")) {
            Matcher call = CALL.matcher(line), tell = TELL.matcher(line);
            if (call.matches()) {
                exampleCall(pods, call);
                calls++;
            } else if (tell.matches()) {
                for (char letter : tell.group(1).toCharArray()) pods.write(letter);
            } else {
                holds(line.isBlank() || line.startsWith("TierPods pods = new TierPods();"), "not understood: " + line);
            }
        }
        holds(calls > 0, "its example has no call with an answer");
    }

    private static void places(String page) {
        Matcher row = PLACES.matcher(page);
        Set<String> told = new HashSet<>();
        while (row.find()) {
            told.add(row.group(1));
            TierPods pods = new TierPods();
            for (char letter : ("k" + row.group(1) + ";f0.0.0>1.0.0,1;").toCharArray()) pods.write(letter);
            holds(pods.lay() == Integer.parseInt(row.group(2)), "hosts in " + row.group());
            holds(pods.count(2) == Integer.parseInt(row.group(3)), "switches in " + row.group());
            holds(pods.count(3) == Integer.parseInt(row.group(4)), "links in " + row.group());
            int shifts = Integer.parseInt(row.group(5));
            holds(pods.would(0, shifts - 1) >= 0 && pods.would(0, shifts) == TierPods.BAD, "shifts in " + row.group());
        }
        holds(told.equals(Set.of("2", "4", "6")), "its numbers of places are for K = " + told);
    }

    private static void calls(String page) {
        Matcher row = ROW.matcher(page);
        Set<String> told = new HashSet<>();
        while (row.find()) {
            Method call = named(row.group(1));
            holds(told.add(row.group(1)), "told twice: " + row.group(1));
            holds(call != null && call.getParameterCount() == numbersIn(row.group(2)), "no such call: " + row.group());
        }
        for (Method m : TierPods.class.getDeclaredMethods())
            if (Modifier.isPublic(m.getModifiers())) holds(told.contains(m.getName()), m.getName() + " is not told");
    }

    private static void tests(String page) throws IOException {
        try (Stream<Path> files = Files.list(TESTS)) {
            files.forEach(file -> {
                String name = file.getFileName().toString().replace(".java", "");
                holds(page.contains("`" + name + "`"), "the test " + name + " is not told");
            });
        }
    }

    public static void main(String[] args) throws Exception {
        String page = Files.readString(PAGE);
        example(page);
        places(page);
        calls(page);
        tests(page);
        System.out.println(wrong == 0 ? "README.md is as the class is" : wrong + " things in README.md are not so");
        if (wrong != 0) System.exit(1);
    }
}
