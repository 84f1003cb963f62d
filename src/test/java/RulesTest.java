import java.io.IOException;
import java.lang.reflect.Field;
import java.lang.reflect.Member;
import java.lang.reflect.Method;
import java.lang.reflect.Modifier;
import java.nio.file.Files;
import java.nio.file.Path;
import java.util.Arrays;
import java.util.Set;
import java.util.TreeSet;
import java.util.regex.Matcher;
import java.util.regex.Pattern;

/** What of LANGUAGE.md can be seen from the class and its text: the face, names, words that are not allowed. */
public final class RulesTest {
    private static final Path SOURCE = Path.of("src/main/java/TierPods.java");
    private static final String[] FACE = {"write(int)", "wipe()", "fault()", "lay()", "host(int,int,int)", "node(int,int)",
        "link(int,int)", "cut(int,int)", "fail(int)", "heal(int)", "tick(int)", "mark(int,int)", "late()", "undo()",
        "onward(int,int,int)", "way(int,int,int,int)", "arrives(int,int,int)", "ways(int,int)", "pairs(int)", "parts(int)",
        "spread(int)", "flow(int,int,int)", "drop(int)", "shift(int,int)", "told(int,int)", "load(int,int,int)", "least()",
        "would(int,int)", "plan()", "count(int)"};
    private static int wrong = 0;

    private static void rule(int number, boolean kept, String what) {
        if (kept) return;
        wrong++;
        System.out.println("rule " + number + ": " + what);
    }

    private static String signature(Method m) {
        StringBuilder text = new StringBuilder(m.getName() + "(");
        for (Class<?> type : m.getParameterTypes()) text.append(text.charAt(text.length() - 1) == '(' ? "" : ",").append(type.getName());
        return text.append(")").toString();
    }

    private static void face() throws ReflectiveOperationException {
        Set<String> open = new TreeSet<>();
        for (Method m : TierPods.class.getDeclaredMethods()) {
            if (Modifier.isPrivate(m.getModifiers())) continue;
            open.add(signature(m));
            rule(1, Modifier.isPublic(m.getModifiers()) && !Modifier.isStatic(m.getModifiers()) && m.getReturnType() == int.class, m.toString());
        }
        rule(1, open.equals(new TreeSet<>(Arrays.asList(FACE))), "the face is " + open);
        Set<String> constants = new TreeSet<>();
        for (Field f : TierPods.class.getDeclaredFields()) if (!Modifier.isPrivate(f.getModifiers())) constants.add(f.toString() + "=" + f.getInt(null));
        String start = "public static final int TierPods.";
        rule(1, constants.equals(new TreeSet<>(Arrays.asList(start + "BAD=-1", start + "NO=-2", start + "FULL=-3", start + "NONE=-4"))),
                "the constants are " + constants);
        rule(1, TierPods.class.getDeclaredConstructors().length == 1 && TierPods.class.getConstructors().length == 1, "constructors");
        rule(1, Modifier.isFinal(TierPods.class.getModifiers()), "the class is final");
    }

    private static void members(Class<?> type) {
        Set<String> names = new TreeSet<>();
        for (String call : FACE) names.add(call.substring(0, call.indexOf('(')));
        for (Method m : type.getDeclaredMethods()) {
            rule(1, type == TierPods.class && Modifier.isPublic(m.getModifiers()) || !names.contains(m.getName()), m + " bears a public name");
            rule(11, m.getParameterCount() <= 7, m + " takes too many");
        }
        int fields = 0;
        for (Field f : type.getDeclaredFields()) {
            if (Modifier.isStatic(f.getModifiers())) rule(5, Modifier.isFinal(f.getModifiers()), f + " is not final");
            else fields++;
        }
        rule(11, fields <= 20, type + " has " + fields + " fields");
        for (Class<?> inside : type.getDeclaredClasses()) {
            rule(2, Modifier.isStatic(inside.getModifiers()) && !Modifier.isPublic(inside.getModifiers()), inside + " is not static");
            members(inside);
        }
    }

    private static void words() throws IOException {
        String text = Files.readString(SOURCE).replaceAll("(?s)/\\*.*?\\*/", "").replaceAll("//[^\n]*", "").replaceAll("\"[^\"]*\"", "\"\"");
        String[] off = {"throw", "throws", "try", "catch", "synchronized", "assert", "->", "::", "package", "Exact", "MAX_VALUE",
            "MIN_VALUE", "Object", "System\\.(?!arraycopy)", "Math\\.(?!max|min|abs|floorMod|floorDiv)", "hashCode", "toString", "equals"};
        for (String word : off) {
            Matcher m = Pattern.compile(Character.isLetter(word.charAt(0)) ? "\\b" + word : word).matcher(text);
            rule(word.startsWith("S") || word.startsWith("M") ? 4 : 6, !m.find(), word + " stands in the program");
        }
        for (String line : text.split("\n")) if (line.startsWith("import ")) rule(4, line.equals("import java.util.Arrays;"), line);
    }

    /** Methods start at one indentation and end at the same one: the program keeps to that form throughout. */
    private static void lengths() throws IOException {
        String[] lines = Files.readString(SOURCE).split("\n");
        for (int x = 0; x < lines.length; x++) {
            Matcher m = Pattern.compile("^( {4}| {8})\\S.*\\) \\{$").matcher(lines[x]);
            if (!m.matches()) continue;
            int end = x;
            while (end < lines.length - 1 && !lines[end].equals(m.group(1) + "}")) end++;
            rule(11, end - x < 60, "long: " + lines[x].trim());
        }
    }

    public static void main(String[] args) throws Exception {
        face();
        members(TierPods.class);
        words();
        lengths();
        System.out.println(wrong == 0 ? "all rules that can be seen are kept" : wrong + " rules are not kept");
        if (wrong != 0) System.exit(1);
    }
}
