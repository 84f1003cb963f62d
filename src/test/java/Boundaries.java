import java.io.IOException;
import java.lang.reflect.InvocationTargetException;
import java.lang.reflect.Method;
import java.lang.reflect.Modifier;
import java.nio.file.Files;
import java.nio.file.Path;
import java.util.ArrayList;
import java.util.HashMap;
import java.util.HashSet;
import java.util.List;
import java.util.Map;
import java.util.Set;
import java.util.regex.Matcher;
import java.util.regex.Pattern;

/**
 * Holds runs of calls against sentences of the document. A call is written with the answer that is due,
 * "cut(0, 1)=1"; "tell k4;x1;" wipes THE TEXT and writes another one. Of every run it is also held that
 * calls that are refused, and those that only ask, change nothing.
 */
final class Boundaries {
    /** A new object, as it is. */
    static final String NEW = "";

    private static final Path DOCUMENT = Path.of("../shared/DOC.md");
    private static final int MOST_CALLS = 512;
    private static final int MOST_CALLS_LOOKED_AT = 400;
    private static final Pattern CALL = Pattern.compile("(\\w+)\\(([^)]*)\\)=(\\S+)");
    private static final Set<String> CHANGING = Set.of("write", "wipe", "lay", "cut", "fail", "heal", "tick", "undo",
            "flow", "drop", "shift", "plan");

    private final Map<String, Method> methods = new HashMap<>();
    private final Map<String, String> sections = new HashMap<>();
    private final Set<Integer> promises = new HashSet<>();
    private final Set<String> sentences = new HashSet<>();
    private String holding = "";
    private int wrong = 0;

    Boundaries() throws IOException {
        for (Method m : TierPods.class.getDeclaredMethods()) if (Modifier.isPublic(m.getModifiers())) methods.put(m.getName(), m);
        for (String section : Files.readString(DOCUMENT).split("\n## ")) {
            String title = section.split("[:\n]")[0];
            sections.put(title, folded(section));
        }
    }

    private static String folded(String text) { return text.replaceAll("\\s+", " "); }

    /** The runs that follow hold this sentence, which stands with the promise or in the terms it rests on. */
    void holds(int promise, String sentence) {
        holding = "promise " + promise + ", \"" + sentence + "\"";
        promises.add(promise);
        sentences.add(holding);
        boolean stands = sections.getOrDefault("Promise " + promise, "").contains(folded(sentence))
                || sections.getOrDefault("Terms", "").contains(folded(sentence))
                || sections.getOrDefault("What it is", "").contains(folded(sentence));
        if (!stands) fault("the document has no such sentence");
    }

    private void fault(String what) {
        wrong++;
        System.out.println(holding + ": " + what);
    }

    static int number(String word) {
        switch (word) {
            case "BAD": return -1;
            case "NO": return -2;
            case "FULL": return -3;
            case "NONE": return -4;
            case "LOW": return Integer.MIN_VALUE;
            case "HIGH": return Integer.MAX_VALUE;
            default: return Integer.parseInt(word);
        }
    }

    static String call(String name, int... args) {
        StringBuilder text = new StringBuilder(name + "(");
        for (int x = 0; x < args.length; x++) text.append(x > 0 ? ", " : "").append(args[x]);
        return text.append(")").toString();
    }

    /** One object with the count of the calls that it has had. */
    private final class Used {
        final TierPods pods = new TierPods();
        int calls = 0;

        int ask(String name, String args) {
            String[] words = args.isBlank() ? new String[0] : args.split(",");
            Object[] numbers = new Object[words.length];
            for (int x = 0; x < words.length; x++) numbers[x] = number(words[x].trim());
            calls++;
            try {
                return (Integer) methods.get(name).invoke(pods, numbers);
            } catch (InvocationTargetException e) {
                fault(name + "(" + args + ") threw " + e.getCause());
            } catch (IllegalAccessException e) {
                fault(name + " cannot be called");
            }
            return Integer.MIN_VALUE;
        }

        void tell(String text) {
            ask("wipe", "");
            for (char letter : text.toCharArray()) ask("write", "" + (int) letter);
        }

        void begin(String text) {
            if (text.equals(NEW)) return;
            tell(text);
            if (ask("lay", "") < 0) fault("not laid: " + text);
        }
    }

    void run(String text, List<String> calls) { run(text, calls.toArray(new String[0])); }

    void run(String text, String... calls) {
        Used used = new Used();
        used.begin(text);
        List<String> changing = new ArrayList<>();
        for (int x = 0; x < calls.length; x++) {
            int got = make(used, calls[x]);
            Matcher m = CALL.matcher(calls[x]);
            if (!m.matches()) {
                changing.add(calls[x]);
                continue;
            }
            if (got != number(m.group(3))) fault(shown(text, calls, x) + " answered " + got);
            if (got >= 0 && CHANGING.contains(m.group(1))) changing.add(calls[x]);
        }
        if (used.calls > MOST_CALLS) fault("a run of " + used.calls + " calls: no such run is promised");
        if (used.calls > MOST_CALLS_LOOKED_AT || changing.size() == calls.length) return;
        if (!look(text, List.of(calls)).equals(look(text, changing)))
            fault(shown(text, calls, calls.length - 1) + ": a call that is refused, or only asks, changed something");
    }

    /** A call at the end of what is told: whatever it answers, its numbers are not BAD. */
    void fine(String text, String call) {
        Used used = new Used();
        used.begin(text);
        if (make(used, call + "=?") == number("BAD")) fault(text + " " + call + " answered BAD");
    }

    /** Two runs that leave the same behind them, but for what can be undone. */
    void same(String text, List<String> calls, String otherText, List<String> otherCalls) {
        run(text, calls);
        run(otherText, otherCalls);
        if (!lookNow(text, calls, false).equals(lookNow(otherText, otherCalls, false)))
            fault(text + calls + " leaves other things than " + otherText + otherCalls);
    }

    private int make(Used used, String call) {
        if (call.startsWith("tell ")) {
            used.tell(call.substring(5));
            return 0;
        }
        Matcher m = CALL.matcher(call);
        if (m.matches() && methods.containsKey(m.group(1))) return used.ask(m.group(1), m.group(2));
        fault("no call: " + call);
        return Integer.MIN_VALUE;
    }

    private static String shown(String text, String[] calls, int last) {
        String ahead = last > 12 ? ".. " : "";
        return text + " " + ahead + String.join(" ", List.of(calls).subList(Math.max(0, last - 12), last + 1));
    }

    /** All that can be asked of what stands, now and when one change and two are undone. */
    private List<String> look(String text, List<String> calls) {
        List<String> seen = new ArrayList<>();
        List<String> undone = new ArrayList<>(calls);
        for (int x = 0; x < 3; x++) {
            seen.addAll(lookNow(text, undone, true));
            undone.add("undo()=?");
        }
        return seen;
    }

    private List<String> lookNow(String text, List<String> calls, boolean undoableToo) {
        List<String> seen = new ArrayList<>();
        Used used = again(text, calls);
        int links = used.ask("count", "3"), switches = used.ask("count", "2"), flows = used.ask("count", "5");
        List<String> questions = new ArrayList<>(List.of("fault()=?"));
        for (int c = 0; c < 8; c++) if (undoableToo || c < 6) questions.add(call("count", c) + "=?");
        for (int f = 0; f < flows; f++) for (int c = 0; c < 4; c++) questions.add(call("told", f, c) + "=?");
        for (int l = 0; l < links; l++) {
            questions.add(call("link", l, 3) + "=?");
            for (int n = 0; n < switches; n++) questions.add(call("mark", n, l) + "=?");
        }
        for (String question : questions) {
            if (used.calls >= MOST_CALLS) used = again(text, calls);
            seen.add(question + make(used, question));
        }
        return seen;
    }

    private Used again(String text, List<String> calls) {
        Used used = new Used();
        used.begin(text);
        for (String call : calls) make(used, call);
        return used;
    }

    void end() {
        for (int p = 1; p <= 31; p++) {
            holding = "promise " + p;
            if (!promises.contains(p)) fault("no sentence of it is held");
        }
        System.out.println(wrong == 0 ? sentences.size() + " sentences hold" : wrong + " answers are not as due");
        if (wrong != 0) System.exit(1);
    }
}
