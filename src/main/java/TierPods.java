import java.util.Arrays;

/** Pods of like switches in three tiers, as ../shared/DOC.md tells them; the words in capitals are its own. */
public final class TierPods {
    public static final int BAD = -1, NO = -2, FULL = -3, NONE = -4;

    private static final String FIRST_TEXT =
            "k4;f0.0.0>2.1.1,9;f0.1.0>2.1.0,5;f1.0.1>1.1.0,7;f3.1.1>0.0.1,30;x5;";

    private static final int MOST_LETTERS = 200;
    private static final int FIRST_LETTER = 32;
    private static final int LAST_LETTER = 126;

    // What there is at most, which is with K = 6: rows of these lengths serve every K.
    private static final int MOST_HOSTS = 54;
    private static final int MOST_SWITCHES = 45;
    private static final int MOST_LINKS = 108;

    private static final int MOST_FLOWS = 16;
    private static final int MOST_SIZE = 99;
    private static final int MOST_TICKS = 9;
    private static final int MOST_UNDONE = 2;
    private static final int MOST_VISITS = 5;
    private static final int MOST_STEPS = MOST_VISITS + 1;
    private static final int FULL_SHARE = 720720;

    private static final int EDGE = 0;
    private static final int MIDDLE = 1;
    private static final int CORE = 2;

    // Steps have one number each: LINKS up come first, then these.
    private static final int DOWN = MOST_LINKS;
    private static final int OUT = DOWN + MOST_LINKS;
    private static final int INTO = OUT + MOST_HOSTS;
    private static final int ALL_STEPS = INTO + MOST_HOSTS;

    private final Script script;
    private final Shape shape;
    private final Journey journey;
    private final Telling telling;
    private final Truth truth;
    private final AllPairs allPairs;
    private final Sharing sharing;

    private State now;
    private State last;
    private State beforeLast;
    private State spare;
    private int undoable;

    public TierPods() {
        script = new Script();
        shape = new Shape();
        journey = new Journey(shape);
        telling = new Telling(shape);
        truth = new Truth(shape);
        allPairs = new AllPairs(shape, journey);
        sharing = new Sharing(shape, journey);
        now = new State();
        last = new State();
        beforeLast = new State();
        spare = new State();
        for (int i = 0; i < FIRST_TEXT.length(); i++) {
            script.append(FIRST_TEXT.charAt(i));
        }
        layScript();
        script.length = 0;
    }

    // ---- told

    public int write(int letter) {
        if (letter < FIRST_LETTER || letter > LAST_LETTER) {
            return BAD;
        }
        return script.append((char) letter) ? script.length : FULL;
    }

    public int wipe() {
        int length = script.length;
        script.length = 0;
        return length;
    }

    public int fault() {
        return script.read(spare);
    }

    public int lay() {
        return layScript() ? shape.hosts : NO;
    }

    // ---- places

    public int host(int p, int i, int h) {
        return hostAt(shape.pods, p, i, h);
    }

    public int node(int n, int what) {
        if (!isSwitch(n)) {
            return BAD;
        }
        switch (what) {
            case 0:
                return shape.tierOf[n];
            case 1:
                return shape.podOf[n];
            case 2:
                return shape.placeOf[n];
            case 3:
                return shape.memberOf[n];
            case 4:
                return linksOf(n, false);
            default:
                return BAD;
        }
    }

    public int link(int l, int what) {
        if (!isLink(l)) {
            return BAD;
        }
        switch (what) {
            case 0:
                return shape.lowerOf[l];
            case 1:
                return shape.upperOf[l];
            case 2:
                return now.isWhole(l) ? 0 : 1;
            case 3:
                return now.ages[l];
            default:
                return BAD;
        }
    }

    // ---- links are cut

    public int cut(int l, int is) {
        if (!isLink(l) || is < 0 || is > 1) {
            return BAD;
        }
        if (now.isWhole(l) == (is == 0)) {
            return NO;
        }
        keepForUndo();
        turn(l);
        countChange();
        return now.ages[l];
    }

    public int fail(int n) {
        return isSwitch(n) ? turnLinksOf(n, false) : BAD;
    }

    public int heal(int n) {
        return isSwitch(n) ? turnLinksOf(n, true) : BAD;
    }

    public int tick(int n) {
        if (n < 1 || n > MOST_TICKS) {
            return BAD;
        }
        keepForUndo();
        int changed = telling.tell(now, n);
        if (changed > 0) {
            countChange();
        }
        return changed;
    }

    public int mark(int n, int l) {
        return isSwitch(n) && isLink(l) ? now.markOf(n, l) : BAD;
    }

    public int late() {
        int pairs = 0;
        for (int l = 0; l < shape.links; l++) {
            pairs += now.lateMarks(l);
        }
        return pairs;
    }

    public int undo() {
        if (undoable < 1) {
            return NO;
        }
        State undone = now;
        now = last;
        last = beforeLast;
        beforeLast = undone;
        undoable--;
        return undoable;
    }

    // ---- ways

    public int onward(int n, int b, int s) {
        return isSwitch(n) && isHost(b) && isShift(s) ? journey.nextLink(now, n, b, s) : BAD;
    }

    public int way(int a, int b, int s, int i) {
        if (!areTwoHosts(a, b) || !isShift(s) || i < -1) {
            return BAD;
        }
        journey.travel(now, shape.edgeOf[a], b, s);
        if (i == -1) {
            return journey.visits;
        }
        return i < journey.visits ? journey.visited[i] : NONE;
    }

    public int arrives(int a, int b, int s) {
        if (!areTwoHosts(a, b) || !isShift(s)) {
            return BAD;
        }
        journey.travel(now, shape.edgeOf[a], b, s);
        return journey.arrived ? 1 : 0;
    }

    public int ways(int a, int b) {
        return areTwoHosts(a, b) ? truth.waysOf(now, shape.edgeOf[a], shape.edgeOf[b], NONE) : BAD;
    }

    public int pairs(int what) {
        switch (what) {
            case 0:
                return truth.joinedPairs(now, NONE);
            case 1:
                allPairs.survey(now);
                return allPairs.arrivals;
            case 2:
                truth.surveyWays(now);
                return truth.fewest;
            case 3:
                truth.surveyWays(now);
                return truth.most;
            default:
                return BAD;
        }
    }

    public int parts(int l) {
        return isLink(l) ? truth.joinedPairs(now, NONE) - truth.joinedPairs(now, l) : BAD;
    }

    public int spread(int what) {
        if (what < 0 || what > 3) {
            return BAD;
        }
        allPairs.survey(now);
        int[] times = what < 2 ? allPairs.timesUp : allPairs.timesDown;
        return what % 2 == 0 ? allPairs.mostTimes(now, times) : allPairs.leastTimes(now, times);
    }

    // ---- flows

    public int flow(int a, int b, int size) {
        if (!areTwoHosts(a, b) || size < 1 || size > MOST_SIZE) {
            return BAD;
        }
        if (now.flows >= MOST_FLOWS) {
            return FULL;
        }
        keepForUndo();
        now.addFlow(a, b, size);
        countChange();
        return now.flows - 1;
    }

    public int drop(int f) {
        if (!isFlow(f)) {
            return BAD;
        }
        keepForUndo();
        now.removeFlow(f);
        countChange();
        return now.flows;
    }

    public int shift(int f, int s) {
        if (!isFlow(f) || !isShift(s)) {
            return BAD;
        }
        int had = now.shifts[f];
        if (had == s) {
            return NO;
        }
        keepForUndo();
        now.shifts[f] = s;
        countChange();
        return had;
    }

    public int told(int f, int what) {
        if (!isFlow(f)) {
            return BAD;
        }
        switch (what) {
            case 0:
                return now.from[f];
            case 1:
                return now.to[f];
            case 2:
                return now.sizes[f];
            case 3:
                return now.shifts[f];
            case 4:
                sharing.survey(now);
                return sharing.comesThrough(f) ? 1 : 0;
            case 5:
                sharing.survey(now);
                return sharing.shareOf(f);
            default:
                return BAD;
        }
    }

    public int load(int l, int up, int what) {
        if (!isLink(l) || up < 0 || up > 1 || what < 0 || what > 1) {
            return BAD;
        }
        int step = up == 1 ? l : DOWN + l;
        sharing.survey(now);
        return what == 0 ? sharing.users[step] : sharing.sizesOver(now, step);
    }

    public int least() {
        if (now.flows == 0) {
            return NONE;
        }
        sharing.survey(now);
        return sharing.leastShare(now.flows);
    }

    public int would(int f, int s) {
        if (!isFlow(f) || !isShift(s)) {
            return BAD;
        }
        sharing.survey(now);
        sharing.route(now, f, s);
        return sharing.leastShare(now.flows);
    }

    public int plan() {
        keepForUndo();
        sharing.survey(now);
        int moved = 0;
        for (int size = MOST_SIZE; size > 0; size--) {
            for (int f = 0; f < now.flows; f++) {
                if (now.sizes[f] == size && sharing.improve(now, f)) {
                    moved++;
                }
            }
        }
        if (moved > 0) {
            countChange();
        }
        return moved;
    }

    public int count(int what) {
        switch (what) {
            case 0:
                return shape.pods;
            case 1:
                return shape.hosts;
            case 2:
                return shape.switches;
            case 3:
                return shape.links;
            case 4:
                return cutLinks();
            case 5:
                return now.flows;
            case 6:
                return undoable;
            case 7:
                return script.length;
            default:
                return BAD;
        }
    }

    // ---- what the calls share

    private boolean isSwitch(int n) {
        return n >= 0 && n < shape.switches;
    }

    private boolean isLink(int l) {
        return l >= 0 && l < shape.links;
    }

    private boolean isHost(int a) {
        return a >= 0 && a < shape.hosts;
    }

    private boolean areTwoHosts(int a, int b) {
        return isHost(a) && isHost(b) && a != b;
    }

    private boolean isShift(int s) {
        return s >= 0 && s < shape.half * shape.half;
    }

    private boolean isFlow(int f) {
        return f >= 0 && f < now.flows;
    }

    private static int hostAt(int k, int p, int i, int h) {
        int half = k / 2;
        if (p < 0 || p >= k || i < 0 || i >= half || h < 0 || h >= half) {
            return BAD;
        }
        return (p * half + i) * half + h;
    }

    private boolean layScript() {
        if (script.read(spare) != NONE || script.k == 0) {
            return false;
        }
        shape.build(script.k);
        now.fit(shape.links, shape.switches);
        last.fit(shape.links, shape.switches);
        beforeLast.fit(shape.links, shape.switches);
        spare.fit(shape.links, shape.switches);
        spare.tellAll();
        State old = now;
        now = spare;
        spare = old;
        undoable = 0;
        return true;
    }

    // The copy lies in the spare state until it is sure that there is a change:
    // only then may the oldest state that can be had again be given up.
    private void keepForUndo() {
        spare.copy(now);
    }

    private void countChange() {
        State oldest = beforeLast;
        beforeLast = last;
        last = spare;
        spare = oldest;
        undoable = Math.min(MOST_UNDONE, undoable + 1);
    }

    private void turn(int l) {
        now.turn(l, shape.lowerOf[l], shape.upperOf[l]);
    }

    private boolean isEnd(int n, int l) {
        return shape.lowerOf[l] == n || shape.upperOf[l] == n;
    }

    private int linksOf(int n, boolean areCut) {
        int found = 0;
        for (int l = 0; l < shape.links; l++) {
            if (isEnd(n, l) && now.isWhole(l) != areCut) {
                found++;
            }
        }
        return found;
    }

    private int turnLinksOf(int n, boolean areCut) {
        int turned = linksOf(n, areCut);
        if (turned == 0) {
            return NO;
        }
        keepForUndo();
        for (int l = 0; l < shape.links; l++) {
            if (isEnd(n, l) && now.isWhole(l) != areCut) {
                turn(l);
            }
        }
        countChange();
        return turned;
    }

    private int cutLinks() {
        int found = 0;
        for (int l = 0; l < shape.links; l++) {
            if (!now.isWhole(l)) {
                found++;
            }
        }
        return found;
    }

    /** Which places there are for K, and how they hang together. */
    private static final class Shape {
        int pods;
        int half;
        int edges;
        int hosts;
        int switches;
        int links;
        final int[] tierOf = new int[MOST_SWITCHES];
        final int[] podOf = new int[MOST_SWITCHES];
        final int[] placeOf = new int[MOST_SWITCHES];
        final int[] memberOf = new int[MOST_SWITCHES];
        final int[] lowerOf = new int[MOST_LINKS];
        final int[] upperOf = new int[MOST_LINKS];
        final int[] edgeOf = new int[MOST_HOSTS];
        final int[] digitOf = new int[MOST_HOSTS];

        void build(int k) {
            pods = k;
            half = k / 2;
            edges = pods * half;
            numberSwitches();
            numberHosts();
            numberLinks();
        }

        private void numberSwitches() {
            switches = 0;
            for (int p = 0; p < pods; p++) {
                for (int i = 0; i < half; i++) {
                    addSwitch(EDGE, p, i, NONE);
                }
            }
            for (int p = 0; p < pods; p++) {
                for (int j = 0; j < half; j++) {
                    addSwitch(MIDDLE, p, j, NONE);
                }
            }
            for (int j = 0; j < half; j++) {
                for (int m = 0; m < half; m++) {
                    addSwitch(CORE, NONE, j, m);
                }
            }
        }

        private void addSwitch(int tier, int pod, int place, int member) {
            if (switches >= MOST_SWITCHES) {
                return;
            }
            tierOf[switches] = tier;
            podOf[switches] = pod;
            placeOf[switches] = place;
            memberOf[switches] = member;
            switches++;
        }

        private void numberHosts() {
            hosts = 0;
            for (int edge = 0; edge < edges; edge++) {
                for (int h = 0; h < half && hosts < MOST_HOSTS; h++) {
                    edgeOf[hosts] = edge;
                    digitOf[hosts] = h;
                    hosts++;
                }
            }
        }

        private void numberLinks() {
            links = 0;
            for (int n = 0; n < 2 * edges; n++) {
                for (int x = 0; x < half && links < MOST_LINKS; x++) {
                    lowerOf[links] = n;
                    upperOf[links] = tierOf[n] == EDGE ? middle(podOf[n], x) : core(placeOf[n], x);
                    links++;
                }
            }
        }

        int middle(int pod, int j) {
            return edges + pod * half + j;
        }

        int core(int j, int m) {
            return 2 * edges + j * half + m;
        }

        // EDGES and MIDDLES have H LINKS up each, and both are numbered in one row:
        // so one rule serves for the LINKS of both tiers.
        int upLink(int n, int x) {
            return n * half + x;
        }

        int byHalf(int value) {
            return half > 0 ? value / half : 0;
        }

        int moduloHalf(int value) {
            return half > 0 ? value % half : 0;
        }

        int otherEnd(int l, int n) {
            return lowerOf[l] == n ? upperOf[l] : lowerOf[l];
        }
    }

    /** All that changes, and that can be UNDONE: LINKS, AGES, MARKS, FLOWS. */
    private static final class State {
        final int[] ages = new int[MOST_LINKS];
        final int[] from = new int[MOST_FLOWS];
        final int[] to = new int[MOST_FLOWS];
        final int[] sizes = new int[MOST_FLOWS];
        final int[] shifts = new int[MOST_FLOWS];
        int flows;
        int[] marks = new int[0];
        private int links;
        private int switches;

        // Room for the MARKS comes with K: there are seven times as many for K = 6 as for K = 4.
        void fit(int links, int switches) {
            this.links = links;
            this.switches = switches;
            if (marks.length < links * switches) {
                marks = new int[links * switches];
            }
        }

        void clear() {
            Arrays.fill(ages, 0);
            flows = 0;
        }

        void copy(State other) {
            System.arraycopy(other.ages, 0, ages, 0, links);
            System.arraycopy(other.marks, 0, marks, 0, links * switches);
            System.arraycopy(other.from, 0, from, 0, MOST_FLOWS);
            System.arraycopy(other.to, 0, to, 0, MOST_FLOWS);
            System.arraycopy(other.sizes, 0, sizes, 0, MOST_FLOWS);
            System.arraycopy(other.shifts, 0, shifts, 0, MOST_FLOWS);
            flows = other.flows;
        }

        boolean isWhole(int l) {
            return ages[l] % 2 == 0;
        }

        int marksOf(int l) {
            return l * switches;
        }

        int markOf(int n, int l) {
            return marks[l * switches + n];
        }

        boolean knowsWhole(int n, int l) {
            return marks[l * switches + n] % 2 == 0;
        }

        void turn(int l, int lower, int upper) {
            ages[l]++;
            marks[l * switches + lower] = ages[l];
            marks[l * switches + upper] = ages[l];
        }

        void tellAll() {
            for (int l = 0; l < links; l++) {
                for (int n = 0; n < switches; n++) {
                    marks[l * switches + n] = ages[l];
                }
            }
        }

        int lateMarks(int l) {
            int found = 0;
            for (int n = 0; n < switches; n++) {
                if (marks[l * switches + n] != ages[l]) {
                    found++;
                }
            }
            return found;
        }

        boolean addFlow(int a, int b, int size) {
            if (flows >= MOST_FLOWS) {
                return false;
            }
            from[flows] = a;
            to[flows] = b;
            sizes[flows] = size;
            shifts[flows] = 0;
            flows++;
            return true;
        }

        void removeFlow(int f) {
            for (int g = f + 1; g < flows; g++) {
                from[g - 1] = from[g];
                to[g - 1] = to[g];
                sizes[g - 1] = sizes[g];
                shifts[g - 1] = shifts[g];
            }
            flows--;
        }
    }

    /** THE TEXT, and the reading of its ITEMS one behind the other. */
    private static final class Script {
        final char[] letters = new char[MOST_LETTERS];
        int length;
        int k;
        private int at;

        boolean append(char letter) {
            if (length >= MOST_LETTERS) {
                return false;
            }
            letters[length] = letter;
            length++;
            return true;
        }

        /** FAULT, or NONE; then k (0: not told) and the draft hold what is told. */
        int read(State draft) {
            draft.clear();
            k = 0;
            at = 0;
            for (int items = 0; items < MOST_LETTERS && at < length; items++) {
                int start = at;
                if (!readItem(draft)) {
                    return start;
                }
            }
            return NONE;
        }

        private boolean readItem(State draft) {
            if (take('k')) {
                return k == 0 && readK() && take(';');
            }
            if (k == 0) {
                return false;
            }
            if (take('f')) {
                return readFlow(draft) && take(';');
            }
            return take('x') && readCut(draft) && take(';');
        }

        private boolean readK() {
            k = readFigure();
            return k == 2 || k == 4 || k == 6;
        }

        private boolean readFlow(State draft) {
            int a = readHost();
            if (a == BAD || !take('>')) {
                return false;
            }
            int b = readHost();
            if (b == BAD || b == a || !take(',')) {
                return false;
            }
            int size = readNumber(2);
            return size > 0 && draft.addFlow(a, b, size);
        }

        private int readHost() {
            int p = readFigure();
            if (!take('.')) {
                return BAD;
            }
            int i = readFigure();
            if (!take('.')) {
                return BAD;
            }
            return hostAt(k, p, i, readFigure());
        }

        private boolean readCut(State draft) {
            int l = readNumber(3);
            if (l < 0 || l >= linksFor(k) || !draft.isWhole(l)) {
                return false;
            }
            draft.ages[l] = 1;
            return true;
        }

        private static int linksFor(int k) {
            return k * k * k / 2;
        }

        private int readNumber(int mostFigures) {
            int value = readFigure();
            for (int figures = 1; figures < mostFigures && value != BAD; figures++) {
                int figure = readFigure();
                if (figure == BAD) {
                    break;
                }
                value = value * 10 + figure;
            }
            return value;
        }

        private int readFigure() {
            if (at >= length || letters[at] < '0' || letters[at] > '9') {
                return BAD;
            }
            at++;
            return letters[at - 1] - '0';
        }

        private boolean take(char letter) {
            if (at >= length || letters[at] != letter) {
                return false;
            }
            at++;
            return true;
        }
    }

    /** A letter's journey, each SWITCH on it going by its own MARKS. */
    private static final class Journey {
        private final Shape shape;
        final int[] visited = new int[MOST_VISITS];
        final int[] goneOver = new int[MOST_VISITS];
        int visits;
        boolean arrived;

        Journey(Shape shape) {
            this.shape = shape;
        }

        void travel(State state, int start, int b, int s) {
            int at = start;
            visits = 0;
            arrived = false;
            for (int hop = 0; hop < MOST_VISITS; hop++) {
                visited[hop] = at;
                visits++;
                int l = nextLink(state, at, b, s);
                if (l < 0) {
                    arrived = l == NONE;
                    return;
                }
                goneOver[hop] = l;
                at = shape.otherEnd(l, at);
            }
        }

        boolean wentUp(int hop) {
            return shape.lowerOf[goneOver[hop]] == visited[hop];
        }

        /** The LINK; NONE: it ARRIVES; NO: it is LOST. */
        int nextLink(State state, int n, int b, int s) {
            int goal = shape.edgeOf[b];
            if (n == goal) {
                return NONE;
            }
            if (shape.tierOf[n] == EDGE) {
                return upFromEdge(state, n, b, s);
            }
            int j = shape.placeOf[n];
            int middle = shape.middle(shape.podOf[goal], j);
            if (n != middle && shape.tierOf[n] == MIDDLE) {
                return upFromMiddle(state, n, b, s);
            }
            int down = n == middle ? shape.upLink(goal, j) : shape.upLink(middle, shape.memberOf[n]);
            return state.knowsWhole(n, down) ? down : NO;
        }

        private int upFromEdge(State state, int n, int b, int s) {
            int goal = shape.edgeOf[b];
            int pod = shape.podOf[n];
            int goalPod = shape.podOf[goal];
            int first = shape.digitOf[b] + shape.placeOf[n] + shape.byHalf(s);
            for (int x = 0; x < shape.half; x++) {
                int j = shape.moduloHalf(first + x);
                int up = shape.upLink(n, j);
                if (!state.knowsWhole(n, up) || !state.knowsWhole(n, shape.upLink(goal, j))) {
                    continue;
                }
                if (pod == goalPod) {
                    return up;
                }
                for (int m = 0; m < shape.half; m++) {
                    if (state.knowsWhole(n, shape.upLink(shape.middle(pod, j), m))
                            && state.knowsWhole(n, shape.upLink(shape.middle(goalPod, j), m))) {
                        return up;
                    }
                }
            }
            return NO;
        }

        private int upFromMiddle(State state, int n, int b, int s) {
            int goal = shape.edgeOf[b];
            int j = shape.placeOf[n];
            int goalMiddle = shape.middle(shape.podOf[goal], j);
            int first = shape.digitOf[b] + j + shape.moduloHalf(s);
            if (!state.knowsWhole(n, shape.upLink(goal, j))) {
                return NO;
            }
            for (int x = 0; x < shape.half; x++) {
                int m = shape.moduloHalf(first + x);
                int up = shape.upLink(n, m);
                if (state.knowsWhole(n, up) && state.knowsWhole(n, shape.upLink(goalMiddle, m))) {
                    return up;
                }
            }
            return NO;
        }
    }

    /** TICKS: MARKS told from SWITCH to SWITCH. */
    private static final class Telling {
        private final Shape shape;
        private final int[] ahead = new int[MOST_SWITCHES];

        Telling(Shape shape) {
            this.shape = shape;
        }

        // MARKS of one LINK never touch those of another one, so all TICKS
        // of one LINK can be run ahead of the next LINK's.
        int tell(State state, int ticks) {
            int changed = 0;
            for (int l = 0; l < shape.links; l++) {
                for (int t = 0; t < ticks && state.lateMarks(l) > 0; t++) {
                    changed += tellOnce(state, l);
                }
            }
            return changed;
        }

        private int tellOnce(State state, int l) {
            int row = state.marksOf(l);
            System.arraycopy(state.marks, row, ahead, 0, shape.switches);
            for (int over = 0; over < shape.links; over++) {
                if (state.isWhole(over)) {
                    int lower = shape.lowerOf[over];
                    int upper = shape.upperOf[over];
                    state.marks[row + lower] = Math.max(state.marks[row + lower], ahead[upper]);
                    state.marks[row + upper] = Math.max(state.marks[row + upper], ahead[lower]);
                }
            }
            int changed = 0;
            for (int n = 0; n < shape.switches; n++) {
                if (state.marks[row + n] != ahead[n]) {
                    changed++;
                }
            }
            return changed;
        }
    }

    /** WAYS as they are in truth, whatever the SWITCHES know; "without" is a LINK taken as CUT, or NONE. */
    private static final class Truth {
        private final Shape shape;
        int fewest;
        int most;

        Truth(Shape shape) {
            this.shape = shape;
        }

        // HOSTS of one EDGE have the same WAYS to all others: so two EDGES tell for all their PAIRS.
        int waysOf(State state, int edge, int other, int without) {
            if (edge == other) {
                return 1;
            }
            int found = 0;
            for (int j = 0; j < shape.half; j++) {
                if (isOpen(state, shape.upLink(edge, j), without) && isOpen(state, shape.upLink(other, j), without)) {
                    found += waysOverMiddle(state, shape.podOf[edge], shape.podOf[other], j, without);
                }
            }
            return found;
        }

        private int waysOverMiddle(State state, int pod, int other, int j, int without) {
            if (pod == other) {
                return 1;
            }
            int found = 0;
            for (int m = 0; m < shape.half; m++) {
                if (isOpen(state, shape.upLink(shape.middle(pod, j), m), without)
                        && isOpen(state, shape.upLink(shape.middle(other, j), m), without)) {
                    found++;
                }
            }
            return found;
        }

        private boolean isOpen(State state, int l, int without) {
            return l != without && state.isWhole(l);
        }

        private int pairsOf(int edge, int other) {
            return shape.half * (edge == other ? shape.half - 1 : shape.half);
        }

        int joinedPairs(State state, int without) {
            int joined = 0;
            for (int edge = 0; edge < shape.edges; edge++) {
                for (int other = 0; other < shape.edges; other++) {
                    if (waysOf(state, edge, other, without) > 0) {
                        joined += pairsOf(edge, other);
                    }
                }
            }
            return joined;
        }

        void surveyWays(State state) {
            fewest = NONE;
            most = NONE;
            for (int edge = 0; edge < shape.edges; edge++) {
                for (int other = 0; other < shape.edges; other++) {
                    if (pairsOf(edge, other) > 0) {
                        int found = waysOf(state, edge, other, NONE);
                        fewest = fewest == NONE ? found : Math.min(fewest, found);
                        most = Math.max(most, found);
                    }
                }
            }
        }
    }

    /** Letters of all PAIRS by SHIFT 0: how many ARRIVE, and SPREAD. */
    private static final class AllPairs {
        private final Shape shape;
        private final Journey journey;
        final int[] timesUp = new int[MOST_LINKS];
        final int[] timesDown = new int[MOST_LINKS];
        int arrivals;

        AllPairs(Shape shape, Journey journey) {
            this.shape = shape;
            this.journey = journey;
        }

        // Letters out of one EDGE to one HOST all go the same way: one of them stands for H.
        void survey(State state) {
            Arrays.fill(timesUp, 0);
            Arrays.fill(timesDown, 0);
            arrivals = 0;
            for (int edge = 0; edge < shape.edges; edge++) {
                for (int b = 0; b < shape.hosts; b++) {
                    journey.travel(state, edge, b, 0);
                    if (journey.arrived) {
                        arrivals += shape.edgeOf[b] == edge ? shape.half - 1 : shape.half;
                        addTimes();
                    }
                }
            }
        }

        private void addTimes() {
            for (int hop = 0; hop < journey.visits - 1; hop++) {
                int[] times = journey.wentUp(hop) ? timesUp : timesDown;
                times[journey.goneOver[hop]] += shape.half;
            }
        }

        int mostTimes(State state, int[] times) {
            int most = NONE;
            for (int l = 0; l < shape.links; l++) {
                if (state.isWhole(l)) {
                    most = Math.max(most, times[l]);
                }
            }
            return most;
        }

        int leastTimes(State state, int[] times) {
            int least = NONE;
            for (int l = 0; l < shape.links; l++) {
                if (state.isWhole(l) && (least == NONE || times[l] < least)) {
                    least = times[l];
                }
            }
            return least;
        }
    }

    /** STEPS of all FLOWS, how many FLOWS are on each STEP, and SHARES. */
    private static final class Sharing {
        private final Shape shape;
        private final Journey journey;
        private final int[] steps = new int[MOST_FLOWS * MOST_STEPS];
        private final int[] stepCounts = new int[MOST_FLOWS];
        final int[] users = new int[ALL_STEPS];

        Sharing(Shape shape, Journey journey) {
            this.shape = shape;
            this.journey = journey;
        }

        void survey(State state) {
            Arrays.fill(users, 0);
            Arrays.fill(stepCounts, 0);
            for (int f = 0; f < state.flows; f++) {
                route(state, f, state.shifts[f]);
            }
        }

        /** The FLOW's STEPS become those by a SHIFT, in place of the ones that it had. */
        void route(State state, int f, int s) {
            removeSteps(f);
            int a = state.from[f];
            int b = state.to[f];
            journey.travel(state, shape.edgeOf[a], b, s);
            if (!journey.arrived) {
                return;
            }
            addStep(f, OUT + a);
            for (int hop = 0; hop < journey.visits - 1; hop++) {
                int l = journey.goneOver[hop];
                addStep(f, journey.wentUp(hop) ? l : DOWN + l);
            }
            addStep(f, INTO + b);
        }

        private void addStep(int f, int step) {
            if (stepCounts[f] >= MOST_STEPS) {
                return;
            }
            steps[f * MOST_STEPS + stepCounts[f]] = step;
            stepCounts[f]++;
            users[step]++;
        }

        private void removeSteps(int f) {
            for (int x = 0; x < stepCounts[f]; x++) {
                users[steps[f * MOST_STEPS + x]]--;
            }
            stepCounts[f] = 0;
        }

        boolean comesThrough(int f) {
            return stepCounts[f] > 0;
        }

        int shareOf(int f) {
            int most = 0;
            for (int x = 0; x < stepCounts[f]; x++) {
                most = Math.max(most, users[steps[f * MOST_STEPS + x]]);
            }
            return most > 0 ? FULL_SHARE / most : 0;
        }

        int leastShare(int flows) {
            int least = FULL_SHARE;
            for (int f = 0; f < flows; f++) {
                least = Math.min(least, shareOf(f));
            }
            return least;
        }

        int sizesOver(State state, int step) {
            int sum = 0;
            for (int f = 0; f < state.flows; f++) {
                for (int x = 0; x < stepCounts[f]; x++) {
                    if (steps[f * MOST_STEPS + x] == step) {
                        sum += state.sizes[f];
                    }
                }
            }
            return sum;
        }

        /** Gives the FLOW the SHIFT that PLANNED wants; whether that is another one. */
        boolean improve(State state, int f) {
            int had = state.shifts[f];
            int best = had;
            int bestLeast = leastShare(state.flows);
            int bestShare = shareOf(f);
            for (int s = 0; s < shape.half * shape.half; s++) {
                route(state, f, s);
                int least = leastShare(state.flows);
                int share = shareOf(f);
                if (least > bestLeast || least == bestLeast && share > bestShare) {
                    best = s;
                    bestLeast = least;
                    bestShare = share;
                }
            }
            route(state, f, best);
            state.shifts[f] = best;
            return best != had;
        }
    }
}
