import java.util.ArrayDeque;
import java.util.ArrayList;
import java.util.Deque;
import java.util.HashMap;
import java.util.HashSet;
import java.util.List;
import java.util.Map;
import java.util.Set;
import java.util.regex.Matcher;
import java.util.regex.Pattern;

/**
 * The document once more, word by word, with names in place of numbers and without any
 * saving of work, so that it can be held against the program in RandomRunsTest.
 */
final class Oracle {
    static final int BAD = -1, NO = -2, FULL = -3, NONE = -4;
    private static final Pattern FLOW = Pattern.compile("f(\\d)\\.(\\d)\\.(\\d)>(\\d)\\.(\\d)\\.(\\d),(\\d\\d?)");
    private static final Pattern CUT = Pattern.compile("x(\\d{1,3})");

    private record Flow(int a, int b, int size, int shift) { }

    private static final class World {
        int[] age;
        int[][] mark; // by switch, by link
        List<Flow> flows = new ArrayList<>();

        World copy() {
            World w = new World();
            w.age = age.clone();
            w.mark = new int[mark.length][];
            for (int n = 0; n < mark.length; n++) w.mark[n] = mark[n].clone();
            w.flows = new ArrayList<>(flows);
            return w;
        }
    }

    private String text = "";
    private int k, h;
    private List<String> switches;
    private List<String> hosts;
    private List<String[]> ends;
    private Map<String, Integer> switchNumber;
    private Map<String, Integer> linkNumber;
    private World w;
    private final Deque<World> past = new ArrayDeque<>();

    Oracle() {
        text = "k4;f0.0.0>2.1.1,9;f0.1.0>2.1.0,5;f1.0.1>1.1.0,7;f3.1.1>0.0.1,30;x5;";
        lay();
        text = "";
    }

    private static String edge(int p, int i) { return "E" + p + "." + i; }
    private static String middle(int p, int j) { return "M" + p + "." + j; }
    private static String core(int j, int m) { return "C" + j + "." + m; }

    private void build(int newK) {
        k = newK;
        h = k / 2;
        switches = new ArrayList<>();
        hosts = new ArrayList<>();
        ends = new ArrayList<>();
        switchNumber = new HashMap<>();
        linkNumber = new HashMap<>();
        for (int p = 0; p < k; p++) for (int i = 0; i < h; i++) switches.add(edge(p, i));
        for (int p = 0; p < k; p++) for (int j = 0; j < h; j++) switches.add(middle(p, j));
        for (int j = 0; j < h; j++) for (int m = 0; m < h; m++) switches.add(core(j, m));
        for (int n = 0; n < switches.size(); n++) switchNumber.put(switches.get(n), n);
        for (int p = 0; p < k; p++) for (int i = 0; i < h; i++) for (int x = 0; x < h; x++) hosts.add(p + "." + i + "." + x);
        for (int p = 0; p < k; p++) for (int i = 0; i < h; i++) for (int j = 0; j < h; j++) addLink(edge(p, i), middle(p, j));
        for (int p = 0; p < k; p++) for (int j = 0; j < h; j++) for (int m = 0; m < h; m++) addLink(middle(p, j), core(j, m));
    }

    private void addLink(String lower, String upper) {
        linkNumber.put(lower + "-" + upper, ends.size());
        ends.add(new String[] {lower, upper});
    }

    private int linkOf(String lower, String upper) { return linkNumber.get(lower + "-" + upper); }
    private int digit(int host, int place) { return hosts.get(host).charAt(2 * place) - '0'; }
    private String edgeOfHost(int host) { return edge(digit(host, 0), digit(host, 1)); }

    // ---- told

    int write(int letter) {
        if (letter < 32 || letter > 126) return BAD;
        if (text.length() == 200) return FULL;
        text += (char) letter;
        return text.length();
    }

    int wipe() {
        int was = text.length();
        text = "";
        return was;
    }

    private int readInto(World to, int[] kTold) {
        int at = 0;
        int told = 0;
        Set<Integer> cuts = new HashSet<>();
        while (at < text.length()) {
            int end = text.indexOf(';', at);
            if (end < 0) return at;
            String item = text.substring(at, end);
            if (at == 0) {
                if (!item.matches("k[246]")) return 0;
                told = item.charAt(1) - '0';
                kTold[0] = told;
            } else if (CUT.matcher(item).matches()) {
                int l = Integer.parseInt(item.substring(1));
                if (l >= told * told * told / 2 || !cuts.add(l)) return at;
            } else {
                Matcher f = FLOW.matcher(item);
                if (!f.matches()) return at;
                int[] v = new int[8];
                for (int g = 1; g <= 7; g++) v[g] = Integer.parseInt(f.group(g));
                int half = told / 2;
                if (v[1] >= told || v[4] >= told || v[2] >= half || v[3] >= half || v[5] >= half || v[6] >= half) return at;
                int a = (v[1] * half + v[2]) * half + v[3];
                int b = (v[4] * half + v[5]) * half + v[6];
                if (a == b || v[7] == 0 || to.flows.size() == 16) return at;
                to.flows.add(new Flow(a, b, v[7], 0));
            }
            at = end + 1;
        }
        to.age = new int[told * told * told / 2];
        for (int l : cuts) to.age[l] = 1;
        return NONE;
    }

    int fault() { return readInto(new World(), new int[1]); }

    int lay() {
        World next = new World();
        int[] told = new int[1];
        if (readInto(next, told) != NONE || told[0] == 0) return NO;
        build(told[0]);
        next.mark = new int[switches.size()][];
        for (int n = 0; n < switches.size(); n++) next.mark[n] = next.age.clone();
        w = next;
        past.clear();
        return hosts.size();
    }

    // ---- places

    private boolean noSwitch(int n) { return n < 0 || n >= switches.size(); }
    private boolean noLink(int l) { return l < 0 || l >= ends.size(); }
    private boolean noHost(int a) { return a < 0 || a >= hosts.size(); }
    private boolean noPair(int a, int b) { return noHost(a) || noHost(b) || a == b; }
    private boolean noShift(int s) { return s < 0 || s >= h * h; }
    private boolean noFlow(int f) { return f < 0 || f >= w.flows.size(); }
    private boolean isCut(int l) { return w.age[l] % 2 == 1; }

    int host(int p, int i, int x) {
        int found = hosts.indexOf(p + "." + i + "." + x);
        return found < 0 ? BAD : found;
    }

    private List<Integer> linksAt(int n, boolean areCut) {
        List<Integer> found = new ArrayList<>();
        for (int l = 0; l < ends.size(); l++) {
            boolean at = ends.get(l)[0].equals(switches.get(n)) || ends.get(l)[1].equals(switches.get(n));
            if (at && isCut(l) == areCut) found.add(l);
        }
        return found;
    }

    int node(int n, int what) {
        if (noSwitch(n) || what < 0 || what > 4) return BAD;
        String name = switches.get(n);
        boolean isCore = name.charAt(0) == 'C';
        if (what == 0) return "EMC".indexOf(name.charAt(0));
        if (what == 1) return isCore ? NONE : name.charAt(1) - '0';
        if (what == 2) return name.charAt(isCore ? 1 : 3) - '0';
        if (what == 3) return isCore ? name.charAt(3) - '0' : NONE;
        return linksAt(n, false).size();
    }

    int link(int l, int what) {
        if (noLink(l) || what < 0 || what > 3) return BAD;
        if (what < 2) return switchNumber.get(ends.get(l)[what]);
        return what == 2 ? w.age[l] % 2 : w.age[l];
    }

    // ---- links are cut

    private void remember(World was) {
        past.addLast(was);
        if (past.size() > 2) past.removeFirst();
    }

    private void turn(int l) {
        w.age[l]++;
        for (String end : ends.get(l)) w.mark[switchNumber.get(end)][l] = w.age[l];
    }

    int cut(int l, int is) {
        if (noLink(l) || is < 0 || is > 1) return BAD;
        if (isCut(l) == (is == 1)) return NO;
        remember(w.copy());
        turn(l);
        return w.age[l];
    }

    private int turnAll(int n, boolean areCut) {
        if (noSwitch(n)) return BAD;
        List<Integer> turned = linksAt(n, areCut);
        if (turned.isEmpty()) return NO;
        remember(w.copy());
        for (int l : turned) turn(l);
        return turned.size();
    }

    int fail(int n) { return turnAll(n, false); }
    int heal(int n) { return turnAll(n, true); }

    int tick(int n) {
        if (n < 1 || n > 9) return BAD;
        World was = w.copy();
        int changed = 0;
        for (int t = 0; t < n; t++) {
            World ahead = w.copy();
            for (int over = 0; over < ends.size(); over++) {
                if (isCut(over)) continue;
                int x = switchNumber.get(ends.get(over)[0]);
                int y = switchNumber.get(ends.get(over)[1]);
                for (int l = 0; l < ends.size(); l++) {
                    w.mark[x][l] = Math.max(w.mark[x][l], ahead.mark[y][l]);
                    w.mark[y][l] = Math.max(w.mark[y][l], ahead.mark[x][l]);
                }
            }
            for (int x = 0; x < switches.size(); x++)
                for (int l = 0; l < ends.size(); l++) if (w.mark[x][l] != ahead.mark[x][l]) changed++;
        }
        if (changed > 0) remember(was);
        return changed;
    }

    int mark(int n, int l) { return noSwitch(n) || noLink(l) ? BAD : w.mark[n][l]; }

    int late() {
        int found = 0;
        for (int[] marks : w.mark) for (int l = 0; l < ends.size(); l++) if (marks[l] != w.age[l]) found++;
        return found;
    }

    int undo() {
        if (past.isEmpty()) return NO;
        w = past.removeLast();
        return past.size();
    }

    // ---- ways

    private boolean knows(String who, String lower, String upper) {
        return w.mark[switchNumber.get(who)][linkOf(lower, upper)] % 2 == 0;
    }

    private int goesOn(String at, int b, int s) {
        int p = digit(b, 0), i = digit(b, 1), last = digit(b, 2);
        String goal = edge(p, i);
        if (at.equals(goal)) return NONE;
        int first = at.charAt(1) - '0', second = at.charAt(3) - '0';
        if (at.charAt(0) == 'E') {
            int j0 = (last + second + s / h) % h;
            for (int x = 0; x < h; x++) {
                int j = (j0 + x) % h;
                boolean leads = knows(at, at, middle(first, j)) && knows(at, goal, middle(p, j));
                boolean over = first == p;
                for (int m = 0; m < h && first != p; m++)
                    over |= knows(at, middle(first, j), core(j, m)) && knows(at, middle(p, j), core(j, m));
                if (leads && over) return linkOf(at, middle(first, j));
            }
            return NO;
        }
        if (at.charAt(0) == 'M' && first != p) {
            int m0 = (last + second + s % h) % h;
            for (int x = 0; x < h; x++) {
                String up = core(second, (m0 + x) % h);
                if (knows(at, at, up) && knows(at, middle(p, second), up) && knows(at, goal, middle(p, second)))
                    return linkOf(at, up);
            }
            return NO;
        }
        String lower = at.charAt(0) == 'M' ? goal : middle(p, first);
        return knows(at, lower, at) ? linkOf(lower, at) : NO;
    }

    /** The names of the switches; behind them "!" if it is LOST. */
    private List<String> journey(int a, int b, int s) {
        List<String> gone = new ArrayList<>();
        String at = edgeOfHost(a);
        while (true) {
            gone.add(at);
            int l = goesOn(at, b, s);
            if (l == NONE) return gone;
            if (l == NO) {
                gone.add("!");
                return gone;
            }
            at = ends.get(l)[0].equals(at) ? ends.get(l)[1] : ends.get(l)[0];
        }
    }

    private static boolean lost(List<String> journey) { return journey.contains("!"); }

    int onward(int n, int b, int s) {
        return noSwitch(n) || noHost(b) || noShift(s) ? BAD : goesOn(switches.get(n), b, s);
    }

    int way(int a, int b, int s, int i) {
        if (noPair(a, b) || noShift(s) || i < -1) return BAD;
        List<String> gone = journey(a, b, s);
        gone.remove("!");
        if (i == -1) return gone.size();
        return i < gone.size() ? switchNumber.get(gone.get(i)) : NONE;
    }

    int arrives(int a, int b, int s) {
        if (noPair(a, b) || noShift(s)) return BAD;
        return lost(journey(a, b, s)) ? 0 : 1;
    }

    private boolean whole(String lower, String upper) { return !isCut(linkOf(lower, upper)); }

    int ways(int a, int b) {
        if (noPair(a, b)) return BAD;
        String from = edgeOfHost(a), to = edgeOfHost(b);
        if (from.equals(to)) return 1;
        int p = digit(a, 0), q = digit(b, 0), found = 0;
        for (int j = 0; j < h; j++) {
            if (!whole(from, middle(p, j)) || !whole(to, middle(q, j))) continue;
            if (p == q) found++;
            for (int m = 0; m < h && p != q; m++)
                if (whole(middle(p, j), core(j, m)) && whole(middle(q, j), core(j, m))) found++;
        }
        return found;
    }

    private List<Integer> allWays() {
        List<Integer> found = new ArrayList<>();
        for (int a = 0; a < hosts.size(); a++) for (int b = 0; b < hosts.size(); b++) if (a != b) found.add(ways(a, b));
        return found;
    }

    int pairs(int what) {
        if (what < 0 || what > 3) return BAD;
        if (what == 0) return (int) allWays().stream().filter(x -> x > 0).count();
        if (what == 2) return allWays().stream().mapToInt(x -> x).min().getAsInt();
        if (what == 3) return allWays().stream().mapToInt(x -> x).max().getAsInt();
        int found = 0;
        for (int a = 0; a < hosts.size(); a++)
            for (int b = 0; b < hosts.size(); b++) if (a != b && !lost(journey(a, b, 0))) found++;
        return found;
    }

    int parts(int l) {
        if (noLink(l)) return BAD;
        if (isCut(l)) return 0;
        List<Integer> ahead = allWays();
        w.age[l]++;
        List<Integer> then = allWays();
        w.age[l]--;
        int found = 0;
        for (int x = 0; x < ahead.size(); x++) if (ahead.get(x) > 0 && then.get(x) == 0) found++;
        return found;
    }

    /** A journey's steps: "lower-upper+" for up, with "-" at the end for down. */
    private List<String> steps(List<String> gone) {
        List<String> found = new ArrayList<>();
        for (int x = 0; x + 1 < gone.size(); x++) {
            String here = gone.get(x), next = gone.get(x + 1);
            boolean up = linkNumber.containsKey(here + "-" + next);
            found.add(up ? here + "-" + next + "+" : next + "-" + here + "-");
        }
        return found;
    }

    int spread(int what) {
        if (what < 0 || what > 3) return BAD;
        Map<String, Integer> times = new HashMap<>();
        for (int a = 0; a < hosts.size(); a++)
            for (int b = 0; b < hosts.size(); b++) {
                if (a == b) continue;
                List<String> gone = journey(a, b, 0);
                if (!lost(gone)) for (String step : steps(gone)) times.merge(step, 1, Integer::sum);
            }
        int most = NONE, least = NONE;
        for (int l = 0; l < ends.size(); l++) {
            if (isCut(l)) continue;
            int t = times.getOrDefault(ends.get(l)[0] + "-" + ends.get(l)[1] + (what < 2 ? "+" : "-"), 0);
            most = Math.max(most, t);
            least = least == NONE ? t : Math.min(least, t);
        }
        return what % 2 == 0 ? most : least;
    }

    // ---- flows

    int flow(int a, int b, int size) {
        if (noPair(a, b) || size < 1 || size > 99) return BAD;
        if (w.flows.size() == 16) return FULL;
        remember(w.copy());
        w.flows.add(new Flow(a, b, size, 0));
        return w.flows.size() - 1;
    }

    int drop(int f) {
        if (noFlow(f)) return BAD;
        remember(w.copy());
        w.flows.remove(f);
        return w.flows.size();
    }

    private void setShift(int f, int s) {
        Flow was = w.flows.get(f);
        w.flows.set(f, new Flow(was.a, was.b, was.size, s));
    }

    int shift(int f, int s) {
        if (noFlow(f) || noShift(s)) return BAD;
        int had = w.flows.get(f).shift;
        if (had == s) return NO;
        remember(w.copy());
        setShift(f, s);
        return had;
    }

    /** The steps of a flow, or none if it does not arrive. */
    private Set<String> stepsOf(Flow f) {
        List<String> gone = journey(f.a, f.b, f.shift);
        if (lost(gone)) return Set.of();
        Set<String> found = new HashSet<>(steps(gone));
        found.add("out of " + f.a);
        found.add("into " + f.b);
        return found;
    }

    private int[] shares() {
        List<Set<String>> all = new ArrayList<>();
        for (Flow f : w.flows) all.add(stepsOf(f));
        int[] found = new int[all.size()];
        for (int f = 0; f < found.length; f++) {
            int most = 0;
            for (String step : all.get(f)) most = Math.max(most, (int) all.stream().filter(x -> x.contains(step)).count());
            found[f] = most == 0 ? 0 : 720720 / most;
        }
        return found;
    }

    int told(int f, int what) {
        if (noFlow(f) || what < 0 || what > 5) return BAD;
        Flow x = w.flows.get(f);
        int[] values = {x.a, x.b, x.size, x.shift, arrives(x.a, x.b, x.shift), shares()[f]};
        return values[what];
    }

    int load(int l, int up, int what) {
        if (noLink(l) || up < 0 || up > 1 || what < 0 || what > 1) return BAD;
        String step = ends.get(l)[0] + "-" + ends.get(l)[1] + (up == 1 ? "+" : "-");
        int sum = 0;
        for (Flow f : w.flows) if (stepsOf(f).contains(step)) sum += what == 0 ? 1 : f.size;
        return sum;
    }

    int least() {
        int found = NONE;
        for (int share : shares()) found = found == NONE ? share : Math.min(found, share);
        return found;
    }

    int would(int f, int s) {
        if (noFlow(f) || noShift(s)) return BAD;
        int had = w.flows.get(f).shift;
        setShift(f, s);
        int found = least();
        setShift(f, had);
        return found;
    }

    private long[] valuesBy(int f, int s) {
        int had = w.flows.get(f).shift;
        setShift(f, s);
        long[] found = {least(), shares()[f]};
        setShift(f, had);
        return found;
    }

    private static boolean better(long[] x, long[] than) {
        return x[0] > than[0] || (x[0] == than[0] && x[1] > than[1]);
    }

    int plan() {
        World was = w.copy();
        List<Integer> order = new ArrayList<>();
        for (int f = 0; f < w.flows.size(); f++) order.add(f);
        order.sort((x, y) -> w.flows.get(y).size - w.flows.get(x).size);
        int moved = 0;
        for (int f : order) {
            int best = 0;
            for (int s = 1; s < h * h; s++) if (better(valuesBy(f, s), valuesBy(f, best))) best = s;
            if (better(valuesBy(f, best), valuesBy(f, w.flows.get(f).shift))) {
                setShift(f, best);
                moved++;
            }
        }
        if (moved > 0) remember(was);
        return moved;
    }

    int count(int what) {
        if (what < 0 || what > 7) return BAD;
        int cuts = 0;
        for (int l = 0; l < ends.size(); l++) if (isCut(l)) cuts++;
        int[] values = {k, hosts.size(), switches.size(), ends.size(), cuts, w.flows.size(), past.size(), text.length()};
        return values[what];
    }
}
