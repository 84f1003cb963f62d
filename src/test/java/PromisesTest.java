/** Each promise of the document, with answers worked out by hand: ordinary inputs, edges, wrong inputs. */
public final class PromisesTest {
    private static final int BAD = -1, NO = -2, FULL = -3, NONE = -4;
    private static final int LOW = Integer.MIN_VALUE, HIGH = Integer.MAX_VALUE;
    private static final String FLOW = "f0.0.0>1.0.0,1;";
    private static int wrong = 0;

    private static void due(int promise, String what, int got, int want) {
        if (got == want) return;
        wrong++;
        System.out.println("promise " + promise + ": " + what + " answered " + got + ", due is " + want);
    }

    private static void tell(TierPods x, String text) {
        x.wipe();
        for (char c : text.toCharArray()) x.write(c);
    }

    private static TierPods laid(String text) {
        TierPods x = new TierPods();
        tell(x, text);
        due(5, "lay of " + text, x.lay() > 0 ? 1 : 0, 1);
        return x;
    }

    private static void newObject() {
        TierPods x = new TierPods();
        int[] counts = {4, 16, 20, 32, 1, 4, 0, 0};
        for (int c = 0; c < 8; c++) due(1, "count(" + c + ")", x.count(c), counts[c]);
        int[][] flows = {{0, 11, 9}, {2, 10, 5}, {5, 6, 7}, {15, 1, 30}};
        for (int f = 0; f < 4; f++) {
            for (int c = 0; c < 3; c++) due(1, "told(" + f + ", " + c + ")", x.told(f, c), flows[f][c]);
            due(1, "told(" + f + ", 3)", x.told(f, 3), 0);
        }
        for (int l = 0; l < 32; l++) {
            TierPods y = new TierPods();
            due(1, "link(" + l + ", 3)", y.link(l, 3), l == 5 ? 1 : 0);
            for (int n = 0; n < 20; n++) due(1, "mark(" + n + ", " + l + ")", y.mark(n, l), l == 5 ? 1 : 0);
        }
        due(1, "fault()", x.fault(), NONE);
        due(1, "lay()", x.lay(), NO);
        due(1, "undo()", x.undo(), NO);
        TierPods y = new TierPods();
        y.cut(0, 1);
        y.write('k');
        due(1, "another object's link(0, 2)", x.link(0, 2), 0);
        due(1, "another object's count(7)", x.count(7), 0);
    }

    private static void write() {
        TierPods x = new TierPods();
        int[] bad = {31, 127, 0, -1, 256 + 65, 65536 + 65, LOW, HIGH};
        for (int letter : bad) due(2, "write(" + letter + ")", x.write(letter), BAD);
        due(2, "write(32)", x.write(32), 1);
        due(2, "write(126)", x.write(126), 2);
        for (int n = 3; n <= 200; n++) due(2, "write of letter " + n, x.write('k'), n);
        due(2, "write when full", x.write('k'), FULL);
        due(2, "write(31) when full", x.write(31), BAD);
        due(2, "count(7)", x.count(7), 200);
        tell(x, "k2;");
        due(2, "lay of what is written", x.lay(), 2);
        due(2, "write behind it", x.write('q'), 4);
    }

    private static void wipe() {
        TierPods x = new TierPods();
        due(3, "wipe()", x.wipe(), 0);
        tell(x, "k4;x1;");
        due(3, "wipe()", x.wipe(), 6);
        due(3, "wipe()", x.wipe(), 0);
        due(3, "count(7)", x.count(7), 0);
        due(3, "fault()", x.fault(), NONE);
        due(3, "write after wipe", x.write('k'), 1);
        due(3, "what is laid stays: count(1)", x.count(1), 16);
    }

    private static void faultIs(String text, int want) {
        TierPods x = new TierPods();
        tell(x, text);
        due(4, "fault of " + text, x.fault(), want);
        due(4, "fault once more of " + text, x.fault(), want);
        due(5, "lay of " + text, x.lay() == NO ? 1 : 0, want == NONE && !text.isEmpty() ? 0 : 1);
    }

    private static void fault() {
        String[] fine = {"", "k2;", "k4;", "k6;", "k4;f0.0.0>0.0.1,1;", "k4;f3.1.1>0.0.0,99;", "k4;f0.0.0>0.0.1,05;",
            "k6;f5.2.2>0.0.0,10;", "k2;f0.0.0>1.0.0,1;", "k4;x0;", "k4;x31;", "k4;x031;", "k4;x00;", "k6;x107;", "k2;x3;",
            "k4;x1;x2;x3;", "k4;" + FLOW.repeat(13), "k4;x1;" + FLOW + "x2;"};
        for (String text : fine) faultIs(text, NONE);
        String[] atStart = {"k", "k4", "k;", "k3;", "k0;", "k8;", "k1;", "k44;", "k04;", "K4;", " k4;", "4;", ";", "x0;", "q;",
            FLOW, "x0;k4;", FLOW + "k4;", "k4,", "k4 ;", "k4x0;", "k-2;"};
        for (String text : atStart) faultIs(text, 0);
        String[] atThree = {"k4;k4;", "k4;k6;", "k4;;", "k4; ", "k4;x", "k4;x1", "k4;x;", "k4;x32;", "k4;x0031;", "k4;x999;",
            "k4;X1;", "k4;x1,", "k4;x-1;", "k4;x 1;", "k6;x108;", "k2;x4;", "k4;f0.0.0>0.0.0,1;", "k4;f0.0.0>0.0.1,0;",
            "k4;f0.0.0>0.0.1,00;", "k4;f0.0.0>0.0.1,100;", "k4;f0.0.0>0.0.1,;", "k4;f0.0.0>0.0.1;", "k4;f0.0.0>0.0.1,1",
            "k4;f4.0.0>0.0.1,1;", "k4;f0.2.0>0.0.1,1;", "k4;f0.0.2>0.0.1,1;", "k4;f0.0.0>4.0.1,1;", "k4;f0.0.0>0.2.1,1;",
            "k4;f0.0.0>0.0.2,1;", "k4;f0.0.0-0.0.1,1;", "k4;f0,0.0>0.0.1,1;", "k4;f0.00>0.0.1,1;", "k4;f00.0.0>0.0.1,1;",
            "k4;f0.0.0>0.0.1.1;", "k4;f.0.0>0.0.1,1;", "k4;f", "k4;f0", "k4;f0.0.0>", "k4;f0.0.0", "k4;F0.0.0>0.0.1,1;",
            "k6;f6.0.0>0.0.1,1;", "k6;f0.3.0>0.0.1,1;", "k6;f0.0.3>0.0.1,1;", "k2;f0.0.0>0.0.1,1;", "k4;q1;x1;"};
        for (String text : atThree) faultIs(text, 3);
        faultIs("k4;x1;x1;", 6);
        faultIs("k4;x1;x001;", 6);
        faultIs("k4;x1;q;x1;", 6);
        faultIs("k4;x1;" + FLOW + "x1;", 21);
        faultIs("k4;" + FLOW.repeat(13) + "x1", 198);
        faultIs("k4;" + FLOW + "k4;" + FLOW, 18);
    }

    private static void lay() {
        TierPods x = new TierPods();
        x.cut(0, 1);
        x.shift(0, 3);
        tell(x, "k6;x1;x1;");
        due(5, "lay with a fault", x.lay(), NO);
        due(5, "nothing changes: count(0)", x.count(0), 4);
        due(5, "nothing changes: link(0, 3)", x.link(0, 3), 1);
        due(5, "nothing changes: told(0, 3)", x.told(0, 3), 3);
        due(5, "nothing changes: count(6)", x.count(6), 2);
        due(5, "nothing changes: undo()", x.undo(), 1);
        due(5, "nothing changes: told(0, 3)", x.told(0, 3), 0);
        tell(x, "k6;f5.2.2>0.1.0,42;x107;x3;");
        due(5, "lay()", x.lay(), 54);
        due(5, "the text stays", x.count(7), 27);
        due(5, "count(0)", x.count(0), 6);
        due(5, "count(4)", x.count(4), 2);
        due(5, "count(5)", x.count(5), 1);
        due(5, "count(6)", x.count(6), 0);
        due(5, "undo()", x.undo(), NO);
        due(5, "link(0, 3)", x.link(0, 3), 0);
        due(5, "link(107, 3)", x.link(107, 3), 1);
        due(5, "late()", x.late(), 0);
        due(5, "mark(0, 107)", x.mark(0, 107), 1);
        due(5, "mark(44, 3)", x.mark(44, 3), 1);
        int[] flow = {53, 3, 42, 0};
        for (int c = 0; c < 4; c++) due(5, "told(0, " + c + ")", x.told(0, c), flow[c]);
        x.heal(1);
        due(5, "lay once more", x.lay(), 54);
        due(5, "link(3, 3)", x.link(3, 3), 1);
        tell(x, "k2;");
        due(5, "lay of k2;", x.lay(), 2);
        due(5, "count(5)", x.count(5), 0);
        x.wipe();
        due(5, "lay of an empty text", x.lay(), NO);
        due(5, "count(1)", x.count(1), 2);
    }

    private static void host() {
        TierPods x = new TierPods();
        for (int a = 0; a < 16; a++) due(6, "host " + a, x.host(a / 4, a / 2 % 2, a % 2), a);
        int[][] bad = {{4, 0, 0}, {0, 2, 0}, {0, 0, 2}, {-1, 0, 0}, {0, -1, 0}, {0, 0, -1}, {HIGH, 0, 0}, {0, LOW, 0}, {0, 0, HIGH}};
        for (int[] b : bad) due(6, "host of no address", x.host(b[0], b[1], b[2]), BAD);
        x = laid("k6;");
        due(6, "host(5, 2, 2)", x.host(5, 2, 2), 53);
        due(6, "host(1, 2, 0)", x.host(1, 2, 0), 15);
        due(6, "host(0, 3, 0)", x.host(0, 3, 0), BAD);
        x = laid("k2;");
        due(6, "host(1, 0, 0)", x.host(1, 0, 0), 1);
        due(6, "host(0, 0, 1)", x.host(0, 0, 1), BAD);
    }

    private static void nodeIs(TierPods x, int n, int... wants) {
        for (int c = 0; c < 5; c++) due(7, "node(" + n + ", " + c + ")", x.node(n, c), wants[c]);
    }

    private static void node() {
        TierPods x = new TierPods();
        nodeIs(x, 0, 0, 0, 0, NONE, 2);
        nodeIs(x, 2, 0, 1, 0, NONE, 1);
        nodeIs(x, 11, 1, 1, 1, NONE, 3);
        nodeIs(x, 18, 2, NONE, 1, 0, 4);
        x.fail(18);
        nodeIs(x, 18, 2, NONE, 1, 0, 0);
        nodeIs(x, 9, 1, 0, 1, NONE, 3);
        x = laid("k6;");
        nodeIs(x, 17, 0, 5, 2, NONE, 3);
        nodeIs(x, 18, 1, 0, 0, NONE, 6);
        nodeIs(x, 35, 1, 5, 2, NONE, 6);
        nodeIs(x, 41, 2, NONE, 1, 2, 6);
        due(7, "node(45, 0)", x.node(45, 0), BAD);
        int[] bad = {-1, 5, LOW, HIGH};
        for (int b : bad) {
            due(7, "node(0, " + b + ")", x.node(0, b), BAD);
            due(7, "node(" + (b == 5 ? 45 : b) + ", 0)", x.node(b == 5 ? 45 : b, 0), BAD);
        }
    }

    private static void link() {
        TierPods x = new TierPods();
        int[][] rows = {{0, 0, 8, 0, 0}, {5, 2, 11, 1, 1}, {14, 7, 14, 0, 0}, {18, 9, 18, 0, 0}, {31, 15, 19, 0, 0}};
        for (int[] row : rows)
            for (int c = 0; c < 4; c++) due(8, "link(" + row[0] + ", " + c + ")", x.link(row[0], c), row[c + 1]);
        x.cut(5, 0);
        due(8, "link(5, 2) when whole again", x.link(5, 2), 0);
        due(8, "link(5, 3) when whole again", x.link(5, 3), 2);
        int[][] bad = {{32, 0}, {-1, 0}, {0, 4}, {0, -1}, {LOW, 0}, {HIGH, 1}, {0, HIGH}};
        for (int[] b : bad) due(8, "link(" + b[0] + ", " + b[1] + ")", x.link(b[0], b[1]), BAD);
        x = laid("k6;");
        due(8, "link(53, 0)", x.link(53, 0), 17);
        due(8, "link(53, 1)", x.link(53, 1), 35);
        due(8, "link(61, 0)", x.link(61, 0), 20);
        due(8, "link(61, 1)", x.link(61, 1), 43);
    }

    private static void cut() {
        TierPods x = new TierPods();
        due(9, "cut(0, 0) of a whole one", x.cut(0, 0), NO);
        due(9, "cut(5, 1) of a cut one", x.cut(5, 1), NO);
        int[][] bad = {{32, 1}, {-1, 1}, {0, 2}, {0, -1}, {LOW, 0}, {0, HIGH}, {5, 2}};
        for (int[] b : bad) due(9, "cut(" + b[0] + ", " + b[1] + ")", x.cut(b[0], b[1]), BAD);
        due(9, "no change till now", x.count(6), 0);
        due(9, "cut(0, 1)", x.cut(0, 1), 1);
        due(9, "its ends know: mark(0, 0)", x.mark(0, 0), 1);
        due(9, "its ends know: mark(8, 0)", x.mark(8, 0), 1);
        due(9, "nobody else knows: late()", x.late(), 18);
        due(9, "cut(0, 0)", x.cut(0, 0), 2);
        due(9, "cut(0, 1)", x.cut(0, 1), 3);
        due(9, "mark(8, 0)", x.mark(8, 0), 3);
        due(9, "cut(5, 0)", x.cut(5, 0), 2);
        due(9, "count(4)", x.count(4), 1);
    }

    private static void failAndHeal() {
        TierPods x = new TierPods();
        due(10, "fail(2)", x.fail(2), 1);
        due(10, "one change", x.count(6), 1);
        due(10, "link(4, 3)", x.link(4, 3), 1);
        due(10, "link(5, 3) stays", x.link(5, 3), 1);
        due(10, "fail(2) again", x.fail(2), NO);
        due(10, "fail(9)", x.fail(9), 4);
        due(10, "mark(9, 19)", x.mark(9, 19), 1);
        due(10, "mark(19, 19)", x.mark(19, 19), 1);
        due(10, "late()", x.late(), 5 * 18);
        due(10, "fail(16)", x.fail(16), 4);
        int[] bad = {-1, 20, LOW, HIGH};
        for (int b : bad) {
            due(10, "fail(" + b + ")", x.fail(b), BAD);
            due(11, "heal(" + b + ")", x.heal(b), BAD);
        }
        due(11, "heal(2)", x.heal(2), 2);
        due(11, "link(5, 3)", x.link(5, 3), 2);
        due(11, "link(4, 3)", x.link(4, 3), 2);
        due(11, "mark(2, 5)", x.mark(2, 5), 2);
        due(11, "mark(11, 5)", x.mark(11, 5), 2);
        due(11, "mark(3, 5)", x.mark(3, 5), 1);
        due(11, "heal(2) again", x.heal(2), NO);
        due(11, "undo()", x.undo(), 1);
        due(11, "link(5, 3) as ahead of it", x.link(5, 3), 1);
        due(11, "heal(3)", x.heal(3), NO);
    }

    private static void tick() {
        // K = 2 is one row of switches: 0 - 2 - 4 - 3 - 1, by the links 0, 2, 3, 1.
        TierPods x = laid("k2;");
        int[] bad = {0, -1, 10, LOW, HIGH};
        for (int b : bad) due(12, "tick(" + b + ")", x.tick(b), BAD);
        due(12, "tick(9) with nothing to tell", x.tick(9), 0);
        due(12, "no change", x.count(6), 0);
        x.cut(2, 1);
        due(12, "tick(1)", x.tick(1), 2);
        due(12, "mark(0, 2)", x.mark(0, 2), 1);
        due(12, "mark(3, 2)", x.mark(3, 2), 1);
        due(12, "mark(1, 2): one link a tick", x.mark(1, 2), 0);
        x.cut(2, 0);
        due(12, "tick(2): a mark that is another one twice", x.tick(2), 4);
        due(12, "mark(1, 2)", x.mark(1, 2), 2);
        due(12, "one change for all ticks", x.undo(), 1);
        due(12, "mark(1, 2) as ahead of it", x.mark(1, 2), 0);
        x = laid("k2;");
        x.cut(2, 1);
        x.cut(1, 1);
        due(12, "tick(9) beside cut links", x.tick(9), 3);
        due(12, "mark(1, 2): no way to it", x.mark(1, 2), 0);
        due(12, "mark(0, 1): no way to it", x.mark(0, 1), 0);
        due(12, "mark(4, 1)", x.mark(4, 1), 1);
        x = new TierPods();
        x.cut(0, 1);
        due(12, "tick(1)", x.tick(1), 4);
        due(12, "tick(1)", x.tick(1), 5);
        due(12, "tick(1)", x.tick(1), 9);
        due(12, "tick(1)", x.tick(1), 0);
        due(12, "the last two changes are ticks", x.undo(), 1);
        due(12, "late()", x.late(), 9);
    }

    private static void markAndLate() {
        TierPods x = new TierPods();
        due(13, "mark(0, 5)", x.mark(0, 5), 1);
        due(13, "mark(19, 31)", x.mark(19, 31), 0);
        int[][] bad = {{20, 0}, {0, 32}, {-1, 0}, {0, -1}, {LOW, LOW}, {HIGH, 0}, {0, HIGH}};
        for (int[] b : bad) due(13, "mark(" + b[0] + ", " + b[1] + ")", x.mark(b[0], b[1]), BAD);
        due(14, "late()", x.late(), 0);
        x.cut(3, 1);
        due(14, "late()", x.late(), 18);
        x.cut(3, 0);
        due(13, "mark(1, 3)", x.mark(1, 3), 2);
        due(13, "mark(2, 3)", x.mark(2, 3), 0);
        due(14, "late(): whole as they think, but not of that age", x.late(), 18);
        x.cut(7, 1);
        due(14, "late()", x.late(), 36);
        x.tick(9);
        due(14, "late()", x.late(), 0);
        x = laid("k2;x0;x1;x2;x3;");
        x.cut(3, 0);
        due(14, "late()", x.late(), 3);
        x.tick(9);
        due(14, "late() where nothing can be told", x.late(), 3);
    }

    private static void undo() {
        TierPods x = new TierPods();
        due(15, "undo()", x.undo(), NO);
        x.cut(0, 1);
        x.cut(1, 1);
        x.cut(2, 1);
        due(15, "count(6)", x.count(6), 2);
        due(15, "undo()", x.undo(), 1);
        due(15, "undo()", x.undo(), 0);
        due(15, "undo() of a third", x.undo(), NO);
        due(15, "link(0, 3)", x.link(0, 3), 1);
        due(15, "link(1, 3)", x.link(1, 3), 0);
        due(15, "mark(0, 1)", x.mark(0, 1), 0);
        due(15, "cut(1, 1)", x.cut(1, 1), 1);
        due(15, "undo()", x.undo(), 0);
        due(15, "flow(0, 15, 3)", x.flow(0, 15, 3), 4);
        due(15, "shift(4, 1)", x.shift(4, 1), 0);
        due(15, "undo() of shift", x.undo(), 1);
        due(15, "told(4, 3)", x.told(4, 3), 0);
        due(15, "drop(1)", x.drop(1), 4);
        due(15, "undo() of drop", x.undo(), 1);
        due(15, "told(1, 0)", x.told(1, 0), 2);
        due(15, "told(4, 1)", x.told(4, 1), 15);
        due(15, "undo() of flow", x.undo(), 0);
        due(15, "count(5)", x.count(5), 4);
        x.cut(9, 1);
        x.write('k');
        int[] nothing = {x.cut(9, 1), x.cut(99, 1), x.fail(99), x.heal(15), x.tick(0), x.drop(9), x.shift(0, 0), x.flow(0, 0, 1),
            x.lay(), x.least(), x.would(0, 1)};
        due(15, nothing.length + " calls that are no changes: count(6)", x.count(6), 1);
        due(15, "undo()", x.undo(), 0);
        due(15, "link(9, 3)", x.link(9, 3), 0);
        due(15, "the text is not undone", x.count(7), 1);
    }

    private static void undoOfFlows() {
        TierPods x = laid("k4;");
        x.flow(0, 15, 3);
        x.flow(1, 14, 5);
        x.flow(2, 13, 7);
        x.drop(0);
        due(15, "undo() of drop", x.undo(), 1);
        int[][] wants = {{0, 15, 3, 0}, {1, 14, 5, 0}, {2, 13, 7, 0}};
        for (int f = 0; f < 3; f++)
            for (int c = 0; c < 4; c++) due(15, "told(" + f + ", " + c + ")", x.told(f, c), wants[f][c]);
        x.cut(9, 1);
        x.flow(3, 4, 9);
        due(15, "undo() of flow", x.undo(), 1);
        due(15, "link(9, 3) stays", x.link(9, 3), 1);
        due(15, "count(5)", x.count(5), 3);
        x.shift(2, 3);
        x.drop(2);
        due(15, "flow(3, 4, 9)", x.flow(3, 4, 9), 2);
        due(23, "a new flow's shift is 0", x.told(2, 3), 0);
        x = laid("k4;f0.0.0>3.1.0,5;f0.0.1>3.0.0,9;");
        x.cut(9, 1);
        due(15, "plan()", x.plan(), 1);
        due(15, "undo() of plan", x.undo(), 1);
        due(15, "link(9, 3) stays", x.link(9, 3), 1);
        due(15, "told(1, 3)", x.told(1, 3), 0);
    }

    private static void onward() {
        TierPods x = new TierPods();
        int[][] rows = {
            {7, 15, 0, NONE}, {7, 14, 3, NONE},
            {0, 15, 0, 1}, {0, 15, 1, 1}, {0, 15, 2, 0}, {0, 15, 3, 0}, {1, 15, 0, 2}, {0, 2, 0, 0}, {0, 2, 2, 1},
            {8, 15, 0, 17}, {8, 15, 1, 16}, {8, 15, 2, 17}, {9, 15, 0, 18}, {9, 15, 3, 19},
            {14, 15, 0, 14}, {15, 15, 0, 15}, {16, 15, 0, 28}, {17, 15, 0, 29}, {19, 15, 0, 31}, {19, 4, 0, 23},
            {0, 4, 2, 0}, {2, 15, 0, 4}, {11, 4, 0, NO}, {9, 4, 0, NO}, {0, 0, 0, NONE}};
        for (int[] r : rows) due(16, "onward(" + r[0] + ", " + r[1] + ", " + r[2] + ")", x.onward(r[0], r[1], r[2]), r[3]);
        int[][] bad = {{20, 0, 0}, {-1, 0, 0}, {0, 16, 0}, {0, -1, 0}, {0, 0, 4}, {0, 0, -1}, {HIGH, 0, 0}, {0, LOW, 0}, {0, 0, HIGH}};
        for (int[] b : bad) due(16, "onward(" + b[0] + ", " + b[1] + ", " + b[2] + ")", x.onward(b[0], b[1], b[2]), BAD);
        x = laid("k6;");
        int[] upFromEdge = {7, 7, 7, 8, 8, 8, 6, 6, 6};
        int[] upFromMiddle = {61, 62, 60, 61, 62, 60, 61, 62, 60};
        for (int s = 0; s < 9; s++) {
            due(16, "onward(2, 53, " + s + ")", x.onward(2, 53, s), upFromEdge[s]);
            due(16, "onward(20, 53, " + s + ")", x.onward(20, 53, s), upFromMiddle[s]);
        }
        x.cut(7, 1);
        due(16, "the next that leads", x.onward(2, 53, 0), 8);
        x.cut(8, 1);
        due(16, "the next, modulo H", x.onward(2, 53, 0), 6);
        x.cut(6, 1);
        due(16, "nothing leads", x.onward(2, 53, 0), NO);
        x.cut(61, 1);
        due(16, "the next core", x.onward(20, 53, 0), 62);
    }

    private static void onwardByOwnMarks() {
        TierPods x = laid("k4;");
        x.fail(8);
        x.cut(0, 0);
        x.cut(2, 0);
        due(16, "edge 0 does not know yet", x.onward(0, 8, 0), 0);
        due(16, "middle 8 knows", x.onward(8, 8, 0), NO);
        x.tick(1);
        due(16, "edge 0 knows: no core over middle 8", x.onward(0, 8, 0), 1);
        due(16, "in one pod no core is needed", x.onward(0, 2, 0), 0);
        x = laid("k4;x16;x25;");
        due(16, "each has a core, but not the same one", x.onward(0, 8, 0), 1);
        due(16, "so at middle 8 nothing leads", x.onward(8, 8, 0), NO);
        due(16, "to another pod it leads", x.onward(8, 12, 0), 17);
        x = laid("k2;");
        x.cut(3, 1);
        due(16, "core 4: down is cut", x.onward(4, 1, 0), NO);
        due(16, "core 4: down on the other side", x.onward(4, 0, 0), 2);
        due(16, "middle 3 knows", x.onward(3, 0, 0), NO);
        due(16, "middle 2 does not", x.onward(2, 1, 0), 2);
        due(16, "edge 1 does not", x.onward(1, 0, 0), 1);
    }

    private static void wayIs(TierPods x, int a, int b, int s, int... switches) {
        String call = "way(" + a + ", " + b + ", " + s + ", ";
        due(17, call + "-1)", x.way(a, b, s, -1), switches.length);
        for (int i = 0; i < switches.length; i++) due(17, call + i + ")", x.way(a, b, s, i), switches[i]);
        due(17, call + switches.length + ")", x.way(a, b, s, switches.length), NONE);
        due(17, call + HIGH + ")", x.way(a, b, s, HIGH), NONE);
    }

    private static void way() {
        TierPods x = new TierPods();
        wayIs(x, 0, 1, 3, 0);
        wayIs(x, 0, 2, 0, 0, 8, 1);
        wayIs(x, 0, 3, 0, 0, 9, 1);
        wayIs(x, 0, 15, 0, 0, 9, 18, 15, 7);
        wayIs(x, 0, 15, 1, 0, 9, 19, 15, 7);
        wayIs(x, 0, 15, 2, 0, 8, 17, 14, 7);
        wayIs(x, 15, 4, 0, 7, 14, 16, 10, 2);
        int[][] bad = {{0, 0, 0, 0}, {-1, 1, 0, 0}, {16, 1, 0, 0}, {0, 16, 0, 0}, {0, -1, 0, 0}, {0, 1, 4, 0}, {0, 1, -1, 0},
            {0, 1, 0, -2}, {0, 1, 0, LOW}, {0, 0, 0, 9}, {LOW, HIGH, 0, 0}};
        for (int[] b : bad) due(17, "way(" + b[0] + ", " + b[1] + ", " + b[2] + ", " + b[3] + ")", x.way(b[0], b[1], b[2], b[3]), BAD);
        x = laid("k2;");
        x.cut(1, 1);
        wayIs(x, 0, 1, 0, 0, 2, 4, 3);
        wayIs(x, 1, 0, 0, 1);
        x.tick(1);
        wayIs(x, 0, 1, 0, 0, 2, 4, 3);
        x.tick(1);
        wayIs(x, 0, 1, 0, 0, 2);
        x.tick(1);
        wayIs(x, 0, 1, 0, 0);
    }

    private static void arrives() {
        TierPods x = new TierPods();
        due(18, "arrives(0, 1, 0)", x.arrives(0, 1, 0), 1);
        due(18, "arrives(0, 15, 3)", x.arrives(0, 15, 3), 1);
        int[][] bad = {{0, 0, 0}, {16, 0, 0}, {0, 16, 0}, {-1, 0, 0}, {0, -1, 0}, {0, 1, 4}, {0, 1, -1}, {HIGH, 0, 0}, {0, LOW, 0}};
        for (int[] b : bad) due(18, "arrives(" + b[0] + ", " + b[1] + ", " + b[2] + ")", x.arrives(b[0], b[1], b[2]), BAD);
        x.fail(0);
        due(18, "out of a failed edge", x.arrives(0, 15, 0), 0);
        due(18, "within it", x.arrives(0, 1, 0), 1);
        due(18, "into it", x.arrives(15, 0, 0), 0);
        x = laid("k4;");
        x.cut(14, 1);
        due(18, "by another middle than the cut one", x.arrives(0, 15, 0), 1);
        due(18, "over middle 14, as edge 0 does not know", x.arrives(0, 15, 2), 0);
        x.tick(9);
        due(18, "when all know", x.arrives(0, 15, 2), 1);
    }

    private static void ways() {
        TierPods x = new TierPods();
        int[][] rows = {{0, 1, 1}, {0, 2, 2}, {0, 15, 4}, {0, 4, 2}, {4, 0, 2}, {4, 6, 1}, {4, 5, 1}};
        for (int[] r : rows) due(19, "ways(" + r[0] + ", " + r[1] + ")", x.ways(r[0], r[1]), r[2]);
        int[][] bad = {{0, 0}, {16, 0}, {0, 16}, {-1, 0}, {0, -1}, {LOW, HIGH}};
        for (int[] b : bad) due(19, "ways(" + b[0] + ", " + b[1] + ")", x.ways(b[0], b[1]), BAD);
        x.cut(16, 1);
        due(19, "in truth, whoever knows", x.ways(0, 15), 3);
        x.cut(29, 1);
        due(19, "ways(0, 15)", x.ways(0, 15), 2);
        x.fail(9);
        due(19, "ways(0, 15)", x.ways(0, 15), 0);
        due(19, "ways(0, 2)", x.ways(0, 2), 1);
        due(19, "ways of K = 6", laid("k6;").ways(0, 53), 9);
        due(19, "ways of K = 2", laid("k2;").ways(0, 1), 1);
    }

    private static void pairsAre(TierPods x, int... wants) {
        for (int c = 0; c < 4; c++) due(20, "pairs(" + c + ")", x.pairs(c), wants[c]);
    }

    private static void pairs() {
        TierPods x = new TierPods();
        pairsAre(x, 240, 240, 1, 4);
        int[] bad = {-1, 4, LOW, HIGH};
        for (int b : bad) due(20, "pairs(" + b + ")", x.pairs(b), BAD);
        x.fail(2);
        pairsAre(x, 240 - 56, 240 - 56, 0, 4);
        due(20, "pairs(3) of a new object", new TierPods().pairs(3), 4);
        x = laid("k2;");
        pairsAre(x, 2, 2, 1, 1);
        x.cut(0, 1);
        due(20, "pairs(3) after a cut", x.pairs(3), 0);
        pairsAre(laid("k2;x0;"), 0, 0, 0, 0);
        pairsAre(laid("k6;"), 54 * 53, 54 * 53, 1, 9);
        x = laid("k4;");
        x.cut(14, 1);
        // Only edge 7 and middle 14 know: the letters to one of edge 7's two hosts
        // out of each of the seven other edges come down by middle 14 and are lost.
        pairsAre(x, 240, 240 - 14, 1, 4);
    }

    private static void parts() {
        TierPods x = new TierPods();
        int[][] rows = {{4, 56}, {5, 0}, {0, 8}, {1, 0}, {6, 8}, {7, 0}, {16, 0}};
        for (int[] r : rows) due(21, "parts(" + r[0] + ")", x.parts(r[0]), r[1]);
        int[] bad = {-1, 32, LOW, HIGH};
        for (int b : bad) due(21, "parts(" + b + ")", x.parts(b), BAD);
        due(21, "nothing changes", x.count(6) + x.count(4), 1);
        for (int l = 0; l < 4; l++) due(21, "parts(" + l + ") of K = 2", laid("k2;").parts(l), 2);
        due(21, "parts(1) of no pair that has a way", laid("k2;x0;").parts(1), 0);
        due(21, "parts(0) of one that is cut", laid("k2;x0;").parts(0), 0);
        due(21, "parts(16)", laid("k4;x17;x1;x3;").parts(16), 4 * 12 * 2);
    }

    private static void spread() {
        TierPods x = laid("k4;");
        int[] wants = {14, 12, 14, 12};
        for (int c = 0; c < 4; c++) due(22, "spread(" + c + ")", x.spread(c), wants[c]);
        int[] bad = {-1, 4, LOW, HIGH};
        for (int b : bad) due(22, "spread(" + b + ")", x.spread(b), BAD);
        x = laid("k2;x0;x1;x2;x3;");
        for (int c = 0; c < 4; c++) due(22, "spread(" + c + ") without whole links", x.spread(c), NONE);
        due(22, "spread(4) without whole links", x.spread(4), BAD);
        x = laid("k2;");
        for (int c = 0; c < 4; c++) due(22, "spread(" + c + ") of K = 2", x.spread(c), 1);
        x.cut(3, 1);
        for (int c = 0; c < 4; c++) due(22, "spread(" + c + ") of letters that are lost", x.spread(c), 0);
        // Edge 0 has but one link up, for both its hosts' letters to the 14 others.
        due(22, "spread(0)", laid("k4;x1;").spread(0), 28);
        // Middle 8 has but edge 0, so nothing leads over link 0.
        due(22, "spread(1)", laid("k4;x2;x16;x17;").spread(1), 0);
        due(22, "spread(3)", laid("k4;x2;x16;x17;").spread(3), 0);
        // Edge 7 knows, and sends all by link 15; the others do not, and lose half of what they send to it.
        x = laid("k4;");
        x.cut(14, 1);
        int[] then = {28, 0, 16, 6};
        for (int c = 0; c < 4; c++) due(22, "spread(" + c + ") while few know", x.spread(c), then[c]);
    }

    private static void flow() {
        TierPods x = new TierPods();
        int[][] bad = {{2, 2, 1}, {16, 0, 1}, {0, 16, 1}, {-1, 0, 1}, {0, -1, 1}, {0, 1, 0}, {0, 1, 100}, {0, 1, -1}, {LOW, HIGH, 1}, {0, 1, HIGH}};
        for (int[] b : bad) due(23, "flow(" + b[0] + ", " + b[1] + ", " + b[2] + ")", x.flow(b[0], b[1], b[2]), BAD);
        due(23, "count(6)", x.count(6), 0);
        for (int f = 4; f < 16; f++) due(23, "flow " + f, x.flow(0, 15, f == 4 ? 1 : 99), f);
        due(23, "flow(0, 15, 5)", x.flow(0, 15, 5), FULL);
        due(23, "flow(0, 0, 5) when full", x.flow(0, 0, 5), BAD);
        due(23, "count(5)", x.count(5), 16);
        int[] wants = {0, 15, 99, 0};
        for (int c = 0; c < 4; c++) due(23, "told(15, " + c + ")", x.told(15, c), wants[c]);
    }

    private static void drop() {
        TierPods x = new TierPods();
        int[] bad = {-1, 4, LOW, HIGH};
        for (int b : bad) due(24, "drop(" + b + ")", x.drop(b), BAD);
        x.shift(2, 3);
        due(24, "drop(1)", x.drop(1), 3);
        int[][] wants = {{0, 11, 9, 0}, {5, 6, 7, 3}, {15, 1, 30, 0}};
        for (int f = 0; f < 3; f++)
            for (int c = 0; c < 4; c++) due(24, "told(" + f + ", " + c + ")", x.told(f, c), wants[f][c]);
        due(24, "told(3, 0)", x.told(3, 0), BAD);
        due(24, "drop(2)", x.drop(2), 2);
        due(24, "drop(0)", x.drop(0), 1);
        due(24, "drop(0)", x.drop(0), 0);
        due(24, "drop(0) of none", x.drop(0), BAD);
        due(24, "undo()", x.undo(), 1);
        due(24, "told(0, 3)", x.told(0, 3), 3);
    }

    private static void shift() {
        TierPods x = new TierPods();
        due(25, "shift(0, 0)", x.shift(0, 0), NO);
        due(25, "shift(0, 3)", x.shift(0, 3), 0);
        due(25, "shift(0, 3)", x.shift(0, 3), NO);
        due(25, "shift(0, 1)", x.shift(0, 1), 3);
        due(25, "told(0, 3)", x.told(0, 3), 1);
        due(25, "told(1, 3)", x.told(1, 3), 0);
        due(25, "count(6)", x.count(6), 2);
        int[][] bad = {{4, 0}, {-1, 0}, {0, 4}, {0, -1}, {LOW, 1}, {0, HIGH}};
        for (int[] b : bad) due(25, "shift(" + b[0] + ", " + b[1] + ")", x.shift(b[0], b[1]), BAD);
        x = laid("k6;f0.0.0>5.2.2,1;");
        due(25, "shift(0, 8) of K = 6", x.shift(0, 8), 0);
        due(25, "shift(0, 9) of K = 6", x.shift(0, 9), BAD);
    }

    private static void told() {
        TierPods x = laid("k4;f0.0.0>3.1.1,7;f3.1.1>0.0.0,9;f0.0.0>0.0.1,8;f1.0.0>1.0.1,2;");
        int[][] wants = {{0, 15, 7, 0, 1, 360360}, {15, 0, 9, 0, 1, 720720}, {0, 1, 8, 0, 1, 360360}, {4, 5, 2, 0, 1, 720720}};
        for (int f = 0; f < 4; f++)
            for (int c = 0; c < 6; c++) due(26, "told(" + f + ", " + c + ")", x.told(f, c), wants[f][c]);
        int[][] bad = {{4, 0}, {-1, 0}, {0, 6}, {0, -1}, {LOW, 5}, {0, HIGH}};
        for (int[] b : bad) due(26, "told(" + b[0] + ", " + b[1] + ")", x.told(b[0], b[1]), BAD);
        x.fail(0);
        due(26, "a flow that is lost: told(0, 4)", x.told(0, 4), 0);
        due(26, "a flow that is lost: told(0, 5)", x.told(0, 5), 0);
        due(26, "it takes nothing from others: told(2, 5)", x.told(2, 5), 720720);
        x = laid("k4;");
        for (int f = 0; f < 16; f++) x.flow(0, 1 + f % 15, 1);
        due(26, "16 out of one host", x.told(7, 5), 45045);
        x = laid("k4;f0.0.0>2.0.0,1;f0.1.1>2.0.0,1;f1.0.1>2.0.0,1;");
        due(26, "three into one host", x.told(1, 5), 240240);
    }

    private static void load() {
        TierPods x = laid("k4;f0.0.0>3.1.0,5;f0.0.1>3.0.0,9;");
        int[][] rows = {{0, 1, 2, 14}, {0, 0, 0, 0}, {16, 1, 2, 14}, {28, 0, 2, 14}, {28, 1, 0, 0}, {14, 0, 1, 5}, {12, 0, 1, 9}, {1, 1, 0, 0}};
        for (int[] r : rows)
            for (int c = 0; c < 2; c++) due(27, "load(" + r[0] + ", " + r[1] + ", " + c + ")", x.load(r[0], r[1], c), r[2 + c]);
        int[][] bad = {{32, 0, 0}, {-1, 0, 0}, {0, 2, 0}, {0, -1, 0}, {0, 0, 2}, {0, 0, -1}, {HIGH, 0, 0}, {0, LOW, 0}, {0, 0, HIGH}};
        for (int[] b : bad) due(27, "load(" + b[0] + ", " + b[1] + ", " + b[2] + ")", x.load(b[0], b[1], b[2]), BAD);
        x.cut(14, 1);
        due(27, "one is lost at middle 14: load(0, 1, 0)", x.load(0, 1, 0), 1);
        due(27, "one is lost at middle 14: load(0, 1, 1)", x.load(0, 1, 1), 9);
    }

    private static void leastAndWould() {
        TierPods x = laid("k4;f0.0.0>3.1.0,5;f0.0.1>3.0.0,9;");
        due(28, "least()", x.least(), 360360);
        int[] wants = {360360, 360360, 720720, 720720};
        for (int s = 0; s < 4; s++) due(29, "would(1, " + s + ")", x.would(1, s), wants[s]);
        due(29, "nothing changes: told(1, 3)", x.told(1, 3), 0);
        due(29, "nothing changes: least()", x.least(), 360360);
        due(29, "nothing changes: count(6)", x.count(6), 0);
        int[][] bad = {{2, 0}, {-1, 0}, {0, 4}, {0, -1}, {LOW, 0}, {0, HIGH}};
        for (int[] b : bad) due(29, "would(" + b[0] + ", " + b[1] + ")", x.would(b[0], b[1]), BAD);
        due(29, "would as the first call", laid("k4;f0.0.0>3.1.0,5;f0.0.1>3.0.0,9;f0.0.1>0.0.0,1;").would(0, 2), 360360);
        x.flow(4, 5, 1);
        due(28, "least() of all", x.least(), 360360);
        x.cut(14, 1);
        due(28, "least() with one that is lost", x.least(), 0);
        due(29, "would(0, 2): by middle 15 it comes through", x.would(0, 2), 720720);
        x = laid("k4;");
        due(28, "least() of no flow", x.least(), NONE);
        due(29, "would(0, 0) of no flow", x.would(0, 0), BAD);
    }

    private static void shiftsAre(TierPods x, int... wants) {
        for (int f = 0; f < wants.length; f++) due(30, "told(" + f + ", 3)", x.told(f, 3), wants[f]);
    }

    private static void plan() {
        TierPods x = laid("k4;");
        due(30, "plan() of no flow", x.plan(), 0);
        x = laid("k4;f0.0.0>3.1.0,5;f0.0.1>3.0.0,9;");
        due(30, "plan()", x.plan(), 1);
        shiftsAre(x, 0, 2);
        due(30, "count(6)", x.count(6), 1);
        due(30, "plan() again", x.plan(), 0);
        due(30, "no change", x.count(6), 1);
        due(30, "undo()", x.undo(), 0);
        shiftsAre(x, 0, 0);
        x = laid("k4;f0.0.0>3.1.0,9;f0.0.1>3.0.0,9;");
        due(30, "plan(): the lower of like sizes", x.plan(), 1);
        shiftsAre(x, 2, 0);
        due(30, "least()", x.least(), 720720);
        x.shift(1, 1);
        due(30, "plan() when a lower shift is as good", x.plan(), 0);
        shiftsAre(x, 2, 1);
        // Three on one link; when the greatest has gone off it, two out of host 0 are the least.
        x = laid("k4;f0.0.0>2.0.0,9;f0.0.0>2.1.0,8;f0.0.1>3.0.0,7;");
        due(30, "told(2, 5)", x.told(2, 5), 240240);
        due(30, "plan()", x.plan(), 1);
        shiftsAre(x, 2, 0, 0);
        due(30, "least()", x.least(), 360360);
        x = laid("k4;f0.0.0>0.0.1,9;f0.0.0>1.0.1,8;f2.0.0>3.0.0,7;f2.0.1>3.1.0,6;");
        due(30, "plan() for its own share alone", x.plan(), 1);
        shiftsAre(x, 0, 0, 2, 0);
        due(30, "least() stays", x.least(), 360360);
        due(30, "told(2, 5)", x.told(2, 5), 720720);
        // What the first has got counts for the second.
        x = laid("k4;f0.0.0>3.1.0,9;f0.0.1>3.0.0,8;");
        x.shift(0, 2);
        x.shift(1, 2);
        due(30, "plan() to shift 0", x.plan(), 1);
        shiftsAre(x, 0, 2);
        x = laid("k6;f0.0.0>5.0.0,9;f0.0.1>5.1.0,8;f0.0.2>5.2.1,7;");
        due(30, "plan() to a high shift", x.plan(), 1);
        shiftsAre(x, 6, 0, 0);
        x = laid("k4;f0.0.0>3.1.0,5;");
        x.cut(14, 1);
        due(30, "plan() of one that is lost", x.plan(), 1);
        shiftsAre(x, 2);
    }

    private static void count() {
        TierPods x = laid("k6;f0.0.0>5.2.2,1;x4;x99;");
        int[] wants = {6, 54, 45, 108, 2, 1, 0, 25};
        for (int c = 0; c < 8; c++) due(31, "count(" + c + ")", x.count(c), wants[c]);
        int[] bad = {-1, 8, LOW, HIGH};
        for (int b : bad) due(31, "count(" + b + ")", x.count(b), BAD);
        x.cut(0, 1);
        x.drop(0);
        x.write('x');
        int[] then = {6, 54, 45, 108, 3, 0, 2, 26};
        for (int c = 0; c < 8; c++) due(31, "count(" + c + ")", x.count(c), then[c]);
        x = laid("k2;");
        int[] small = {2, 2, 5, 4, 0, 0, 0, 3};
        for (int c = 0; c < 8; c++) due(31, "count(" + c + ") of K = 2", x.count(c), small[c]);
    }

    public static void main(String[] args) {
        newObject();
        write();
        wipe();
        fault();
        lay();
        host();
        node();
        link();
        cut();
        failAndHeal();
        tick();
        markAndLate();
        undo();
        undoOfFlows();
        onward();
        onwardByOwnMarks();
        way();
        arrives();
        ways();
        pairs();
        parts();
        spread();
        flow();
        drop();
        shift();
        told();
        load();
        leastAndWould();
        plan();
        count();
        System.out.println(wrong == 0 ? "all answers are as due" : wrong + " answers are not as due");
        if (wrong != 0) System.exit(1);
    }
}
