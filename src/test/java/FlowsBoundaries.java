import java.util.ArrayList;
import java.util.List;

/** Boundary cases of promises 23 to 31, each by its sentence: FLOWS, SHARES, LEAST, PLANNED, what is counted. */
final class FlowsBoundaries {
    private static final String NEW = Boundaries.NEW;
    private static final String TWO_FLOWS = "k4;f0.0.0>3.1.0,5;f0.0.1>3.0.0,9;";
    private final Boundaries at;

    private FlowsBoundaries(Boundaries at) { this.at = at; }

    static void go(Boundaries at) {
        FlowsBoundaries flows = new FlowsBoundaries(at);
        flows.flow();
        flows.drop();
        flows.shift();
        flows.told();
        flows.share();
        flows.load();
        flows.least();
        flows.would();
        flows.plan();
        flows.planOrder();
        flows.planChoice();
        flows.count();
    }

    private static List<String> flows(int many, int a, int b, int size) {
        List<String> calls = new ArrayList<>();
        for (int f = 0; f < many; f++) calls.add(Boundaries.call("flow", a, b, size) + "=" + f);
        return calls;
    }

    private static List<String> then(List<String> calls, String... more) {
        calls.addAll(List.of(more));
        return calls;
    }

    private void flow() {
        at.holds(23, "A FLOW more, of SHIFT 0, a SIZE (1 to 99): its number.");
        at.run("k4;", "flow(0, 15, 0)=BAD", "flow(0, 15, 1)=0", "flow(0, 15, 99)=1", "flow(0, 15, 100)=BAD", "flow(0, 15, -1)=BAD",
                "flow(0, 15, LOW)=BAD", "flow(0, 15, HIGH)=BAD", "count(5)=2", "count(6)=2", "told(0, 2)=1", "told(1, 2)=99", "told(0, 3)=0",
                "told(1, 0)=0", "told(1, 1)=15");
        at.run("k4;", "flow(0, 15, 1)=0", "shift(0, 3)=0", "drop(0)=0", "flow(15, 0, 7)=0", "told(0, 3)=0", "told(0, 0)=15");
        at.holds(23, "BAD (a and b one, too); FULL: 16.");
        at.run("k4;", "flow(0, 0, 1)=BAD", "flow(15, 15, 1)=BAD", "flow(-1, 0, 1)=BAD", "flow(16, 0, 1)=BAD", "flow(0, -1, 1)=BAD",
                "flow(0, 16, 1)=BAD", "flow(LOW, 0, 1)=BAD", "flow(0, HIGH, 1)=BAD", "count(5)=0", "count(6)=0");
        at.run("k2;", "flow(0, 1, 1)=0", "flow(1, 0, 1)=1", "flow(0, 2, 1)=BAD", "flow(2, 0, 1)=BAD", "flow(1, 1, 1)=BAD");
        at.run("k6;", "flow(53, 0, 1)=0", "flow(54, 0, 1)=BAD", "flow(0, 54, 1)=BAD");
        at.run("k4;", then(flows(16, 0, 1, 9), "flow(0, 1, 9)=FULL", "flow(1, 0, 1)=FULL", "count(5)=16", "undo()=1", "count(5)=15",
                "flow(2, 3, 8)=15", "flow(2, 3, 8)=FULL", "told(15, 2)=8", "drop(0)=15", "flow(4, 5, 7)=15", "flow(4, 5, 7)=FULL"));
        at.holds(23, "Of several the first in the order told; nothing changes then.");
        at.run("k4;", then(flows(16, 0, 1, 9), "flow(0, 0, 9)=BAD", "flow(0, 16, 9)=BAD", "flow(0, 1, 0)=BAD", "flow(0, 1, 100)=BAD",
                "flow(-1, 1, 9)=BAD", "count(5)=16", "count(6)=2"));
    }

    private void drop() {
        at.holds(24, "A FLOW goes, those behind it are one number lower: how many are left. BAD.");
        at.run(NEW, "shift(3, 2)=0", "drop(0)=3", "told(0, 2)=5", "told(1, 2)=7", "told(2, 2)=30", "told(2, 3)=2", "told(2, 0)=15",
                "told(2, 1)=1", "told(3, 0)=BAD", "drop(3)=BAD");
        at.run(NEW, "drop(3)=3", "told(0, 2)=9", "told(1, 2)=5", "told(2, 2)=7", "drop(2)=2", "drop(1)=1", "drop(0)=0", "drop(0)=BAD",
                "count(5)=0", "least()=NONE", "count(6)=2");
        at.run(NEW, "drop(-1)=BAD", "drop(4)=BAD", "drop(15)=BAD", "drop(16)=BAD", "drop(LOW)=BAD", "drop(HIGH)=BAD", "count(5)=4",
                "count(6)=0");
        at.run("k4;", "drop(0)=BAD");
        at.run("k4;", then(flows(16, 0, 1, 9), "drop(16)=BAD", "drop(15)=15", "drop(15)=BAD", "drop(0)=14", "drop(14)=BAD"));
    }

    private void shift() {
        at.holds(25, "A FLOW has another SHIFT: which it had.");
        at.run(NEW, "shift(0, 3)=0", "shift(0, 1)=3", "shift(0, 0)=1", "told(0, 3)=0", "shift(3, 3)=0", "told(3, 3)=3", "told(2, 3)=0");
        at.holds(25, "BAD; NO: it has that.");
        at.run(NEW, "shift(0, 0)=NO", "shift(3, 0)=NO", "count(6)=0", "shift(0, 3)=0", "shift(0, 3)=NO", "count(6)=1", "shift(0, 4)=BAD",
                "shift(0, -1)=BAD", "shift(4, 0)=BAD", "shift(-1, 0)=BAD", "shift(4, 4)=BAD", "shift(LOW, 0)=BAD", "shift(0, HIGH)=BAD",
                "shift(HIGH, 0)=BAD", "shift(0, LOW)=BAD", "count(6)=1");
        at.run("k2;f0.0.0>1.0.0,1;", "shift(0, 0)=NO", "shift(0, 1)=BAD", "shift(0, -1)=BAD", "shift(1, 0)=BAD");
        at.run("k6;f0.0.0>5.2.2,1;", "shift(0, 8)=0", "shift(0, 9)=BAD", "shift(0, 8)=NO", "told(0, 3)=8");
        at.run("k4;", "shift(0, 0)=BAD", "shift(0, 1)=BAD");
    }

    private void told() {
        at.holds(26, "from (what = 0), to (1), SIZE (2), SHIFT (3), 1: it ARRIVES, 0 (4), SHARE (5). BAD.");
        at.run(NEW, "told(0, -1)=BAD", "told(0, 6)=BAD", "told(3, 5)=720720", "told(4, 5)=BAD", "told(4, 0)=BAD", "told(-1, 0)=BAD",
                "told(-1, 6)=BAD", "told(LOW, 0)=BAD", "told(HIGH, 0)=BAD", "told(0, LOW)=BAD", "told(0, HIGH)=BAD");
        at.run("k4;", "told(0, 0)=BAD", "told(0, 5)=BAD");
        at.run("k4;", then(flows(16, 0, 1, 9), "told(15, 2)=9", "told(16, 2)=BAD", "told(16, 4)=BAD", "told(16, 5)=BAD"));
        at.holds(26, "it ARRIVES, if its letter does now.");
        at.run("k2;f0.0.0>1.0.0,1;", "told(0, 4)=1", "cut(1, 1)=1", "told(0, 4)=0", "told(0, 5)=0", "tick(9)=3", "told(0, 4)=0",
                "cut(1, 0)=2", "told(0, 4)=0", "tick(2)=2", "told(0, 4)=0", "tick(1)=1", "told(0, 4)=1", "told(0, 5)=720720");
    }

    private void share() {
        at.holds(26, "its SHARE is 720720 by the most FLOWS that ARRIVE and have one STEP of its in common");
        for (int many = 1; many <= 16; many++) {
            String want = "=" + 720720 / many;
            at.run("k4;", then(flows(many, 0, 15, 1), "told(0, 5)" + want, "told(" + (many - 1) + ", 5)" + want, "least()" + want));
        }
        // One STEP in common with one, another STEP with another one: two on each, not three.
        at.run("k4;f0.0.0>3.1.1,1;f0.0.0>0.0.1,1;f3.1.0>3.1.1,1;", "told(0, 5)=360360", "told(1, 5)=360360", "told(2, 5)=360360");
        at.run("k4;f0.0.0>3.1.1,1;f0.0.0>0.0.1,1;f3.1.0>3.1.1,1;f3.0.0>3.1.1,1;", "told(0, 5)=240240", "told(1, 5)=360360",
                "told(2, 5)=240240");
        at.holds(26, "STEPS of one that ARRIVES: out of its HOST, each LINK up or down, into its HOST;");
        at.run("k4;f0.0.0>0.0.1,1;", "told(0, 4)=1", "told(0, 5)=720720");
        at.run("k4;f0.0.0>0.0.1,1;f0.0.0>3.1.1,1;", "told(0, 5)=360360", "told(1, 5)=360360");
        at.run("k4;f0.0.0>0.0.1,1;f3.1.1>0.0.1,1;", "told(0, 5)=360360", "told(1, 5)=360360");
        at.run("k4;f0.0.0>0.1.0,1;f0.0.1>0.1.0,1;", "told(0, 5)=360360");
        at.run("k4;f0.0.0>1.0.0,1;f0.0.1>2.0.0,1;", "told(0, 5)=360360", "told(1, 5)=360360");
        at.run("k4;f0.0.0>3.0.0,1;f1.0.0>3.1.0,1;", "told(0, 5)=360360", "told(1, 5)=360360");
        for (int b = 1; b < 54; b++)
            at.run("k6;", "flow(0, " + b + ", 1)=0", "flow(" + (54 - b) + ", 0, 1)=1", "told(0, 5)=720720", "told(1, 5)=720720");
        at.holds(26, "(the same way; itself, too); of others 0.");
        at.run("k2;f0.0.0>1.0.0,1;f1.0.0>0.0.0,1;", "told(0, 5)=720720", "told(1, 5)=720720");
        at.run("k4;f0.0.0>0.0.1,1;f0.0.1>0.0.0,1;", "told(0, 5)=720720", "told(1, 5)=720720");
        at.run("k4;x0;x1;f0.0.0>3.1.1,1;f0.0.0>0.0.1,1;", "told(0, 4)=0", "told(0, 5)=0", "told(1, 5)=720720");
    }

    private void load() {
        at.holds(27, "Of the FLOWS that ARRIVE over a LINK, up (up = 1), down (0): how many (what = 0), their SIZES together (1). BAD.");
        at.run("k2;f0.0.0>1.0.0,7;", "load(0, 1, 0)=1", "load(0, 1, 1)=7", "load(0, 0, 0)=0", "load(0, 0, 1)=0", "load(2, 1, 1)=7",
                "load(2, 0, 1)=0", "load(3, 0, 1)=7", "load(3, 1, 1)=0", "load(1, 0, 0)=1", "load(1, 1, 0)=0");
        at.run("k2;", "load(0, 1, 0)=0", "load(3, 0, 1)=0");
        at.run("k2;", then(flows(16, 0, 1, 99), "load(0, 1, 0)=16", "load(0, 1, 1)=1584", "load(1, 0, 0)=16", "load(1, 0, 1)=1584",
                "load(1, 1, 1)=0"));
        at.run("k4;f0.0.0>0.0.1,9;", "load(0, 1, 0)=0", "load(1, 1, 0)=0", "load(0, 0, 0)=0", "load(1, 0, 1)=0");
        // It is LOST at the last LINK: then it is over none, not even over those that its letter goes.
        at.run("k2;f0.0.0>1.0.0,7;", "cut(1, 1)=1", "load(0, 1, 0)=0", "load(2, 1, 1)=0", "load(3, 0, 0)=0", "load(1, 0, 0)=0");
        at.run(NEW, "load(-1, 1, 0)=BAD", "load(32, 1, 0)=BAD", "load(0, -1, 0)=BAD", "load(0, 2, 0)=BAD", "load(0, 1, -1)=BAD",
                "load(0, 1, 2)=BAD", "load(31, 0, 1)=0", "load(32, 2, 2)=BAD", "load(LOW, 0, 0)=BAD", "load(HIGH, 0, 0)=BAD",
                "load(0, LOW, 0)=BAD", "load(0, HIGH, 0)=BAD", "load(0, 0, LOW)=BAD", "load(0, 0, HIGH)=BAD");
        at.run("k2;", "load(4, 1, 0)=BAD", "load(3, 1, 0)=0");
        at.run("k6;", "load(108, 1, 0)=BAD", "load(107, 1, 0)=0");
    }

    private void least() {
        at.holds(28, "LEAST. NONE: no FLOW.");
        at.run("k4;", "least()=NONE", "flow(0, 1, 1)=0", "least()=720720", "drop(0)=0", "least()=NONE", "undo()=1", "least()=720720");
        at.holds(28, "LEAST is the least SHARE of all FLOWS.");
        at.run("k4;", then(flows(16, 0, 15, 1), "least()=45045", "drop(0)=15", "least()=48048"));
        at.run("k4;f0.0.0>0.0.1,1;f0.0.0>1.0.1,1;f2.0.0>3.0.0,1;", "least()=360360", "told(2, 5)=720720", "drop(0)=2", "least()=720720");
        at.run("k4;f2.0.0>3.0.0,1;f0.0.0>3.1.1,1;x0;x1;", "least()=0", "told(0, 5)=720720", "drop(1)=1", "least()=720720");
    }

    private void would() {
        at.holds(29, "LEAST, if a FLOW had that SHIFT. BAD.");
        at.run(TWO_FLOWS, "would(0, 0)=360360", "would(0, 1)=360360", "would(0, 2)=720720", "would(0, 3)=720720", "would(1, 3)=720720",
                "least()=360360", "told(0, 3)=0", "count(6)=0");
        at.run(TWO_FLOWS, "would(-1, 0)=BAD", "would(2, 0)=BAD", "would(0, -1)=BAD", "would(0, 4)=BAD", "would(2, 4)=BAD",
                "would(LOW, 0)=BAD", "would(HIGH, 0)=BAD", "would(0, LOW)=BAD", "would(0, HIGH)=BAD");
        at.run("k4;", "would(0, 0)=BAD");
        at.run("k2;f0.0.0>1.0.0,1;", "would(0, 0)=720720", "would(0, 1)=BAD", "cut(3, 1)=1", "would(0, 0)=0");
        at.run("k6;f0.0.0>5.2.2,1;", "would(0, 8)=720720", "would(0, 9)=BAD");
        at.run("k4;f0.0.0>3.1.0,5;", "cut(14, 1)=1", "least()=0", "would(0, 0)=0", "would(0, 1)=0", "would(0, 2)=720720", "least()=0");
    }

    private void shiftsAre(String text, String plan, int... wants) {
        List<String> calls = new ArrayList<>(List.of(plan));
        for (int f = 0; f < wants.length; f++) calls.add("told(" + f + ", 3)=" + wants[f]);
        calls.add("plan()=0");
        at.run(text, calls);
    }

    private void plan() {
        at.holds(30, "PLANNED: how many FLOWS got another SHIFT.");
        at.run("k4;", "plan()=0", "count(6)=0", "undo()=NO");
        shiftsAre("k4;f0.0.0>0.0.1,5;f0.0.0>0.0.1,5;", "plan()=0", 0, 0);
        shiftsAre("k2;f0.0.0>1.0.0,5;f0.0.0>1.0.0,5;", "plan()=0", 0, 0);
        shiftsAre("k4;x0;x1;f0.0.0>3.1.1,5;f0.0.1>3.1.0,5;", "plan()=0", 0, 0);
        shiftsAre(TWO_FLOWS, "plan()=1", 0, 2);
        at.run("k4;", then(flows(16, 0, 1, 9), "plan()=0", "count(6)=2"));
        shiftsAre("k4;f0.0.0>3.1.0,9;f0.0.1>3.0.0,8;f1.0.0>2.1.0,7;f1.0.1>2.0.0,6;", "plan()=2", 2, 0, 2, 0);
    }

    private void planOrder() {
        at.holds(30, "of all FLOWS, those of greater SIZE first, of like ones the lower, one after the other:");
        shiftsAre("k4;f0.0.0>3.1.0,1;f0.0.1>3.0.0,99;", "plan()=1", 0, 2);
        shiftsAre("k4;f0.0.0>3.1.0,99;f0.0.1>3.0.0,1;", "plan()=1", 2, 0);
        shiftsAre("k4;f0.0.0>3.1.0,98;f0.0.1>3.0.0,99;", "plan()=1", 0, 2);
        shiftsAre("k4;f0.0.0>3.1.0,1;f0.0.1>3.0.0,1;", "plan()=1", 2, 0);
        shiftsAre("k4;f0.0.0>3.1.0,99;f0.0.1>3.0.0,99;", "plan()=1", 2, 0);
        at.run("k6;f0.0.0>5.0.0,9;f0.0.1>5.1.0,8;f0.0.2>5.2.0,7;", "told(0, 5)=240240", "plan()=2", "least()=720720", "told(0, 3)=3",
                "told(1, 3)=6", "told(2, 3)=0");
    }

    private void planChoice() {
        at.holds(30, "of all SHIFTS of it that by which LEAST is greatest,");
        // SHIFTS 0 and 1 share LINK 0 with the second FLOW, SHIFT 2 shares LINK 19 with the third one: the last SHIFT is left.
        shiftsAre("k4;f0.0.0>3.0.0,9;f0.0.1>1.0.0,8;f0.1.0>2.0.0,7;", "plan()=1", 3, 0, 0);
        at.holds(30, "of several that by which its own SHARE is, of several the lowest,");
        // Four out of one HOST hold LEAST at 180180. The first FLOW has 240240 by SHIFT 0, 360360 by 1, 720720 by 2 and 3.
        String four = "f1.0.0>1.0.1,5;".repeat(4);
        String crowd = "k4;f0.0.0>3.0.0,9;f0.0.1>1.1.0,8;f2.0.0>3.1.0,7;f2.0.1>3.1.0,6;" + four;
        at.run(crowd, "told(0, 5)=240240", "least()=180180", "would(0, 1)=180180", "would(0, 2)=180180", "shift(0, 1)=0",
                "told(0, 5)=360360", "shift(0, 2)=1", "told(0, 5)=720720", "shift(0, 3)=2", "told(0, 5)=720720");
        shiftsAre(crowd, "plan()=1", 2, 0, 0, 0, 0, 0, 0, 0);
        at.holds(30, "if by that LEAST is more than by the SHIFT it has, or LEAST is the same, and its own SHARE more.");
        at.run("k4;f0.0.0>3.1.0,5;", "shift(0, 3)=0", "plan()=0", "told(0, 3)=3");
        at.run("k4;f0.0.0>0.0.1,5;", "shift(0, 2)=0", "plan()=0", "told(0, 3)=2");
        at.run("k4;x0;x1;f0.0.0>3.1.1,5;", "shift(0, 1)=0", "plan()=0", "told(0, 3)=1");
        at.run(crowd, "shift(0, 3)=0", "plan()=0", "told(0, 3)=3");
        at.run(crowd, "shift(0, 1)=0", "plan()=1", "told(0, 3)=2", "least()=180180");
        at.run(TWO_FLOWS, "shift(0, 2)=0", "shift(1, 2)=0", "plan()=1", "told(0, 3)=2", "told(1, 3)=0");
        at.run("k4;f0.0.0>3.1.0,5;", "cut(14, 1)=1", "plan()=1", "told(0, 3)=2", "told(0, 4)=1", "undo()=1", "told(0, 3)=0", "told(0, 4)=0");
    }

    private void counts(String text, int... wants) {
        List<String> calls = new ArrayList<>();
        for (int c = 0; c < 8; c++) calls.add("count(" + c + ")=" + wants[c]);
        at.run(text, then(calls, "count(-1)=BAD", "count(8)=BAD", "count(LOW)=BAD", "count(HIGH)=BAD"));
    }

    private void count() {
        at.holds(31, "0 K, 1 HOSTS, 2 SWITCHES, 3 LINKS, 4 LINKS that are CUT, 5 FLOWS, 6 changes that can be UNDONE, 7 letters of THE TEXT. BAD.");
        counts(NEW, 4, 16, 20, 32, 1, 4, 0, 0);
        counts("k2;", 2, 2, 5, 4, 0, 0, 0, 3);
        counts("k2;x0;x1;x2;x3;", 2, 2, 5, 4, 4, 0, 0, 15);
        counts("k4;", 4, 16, 20, 32, 0, 0, 0, 3);
        counts("k6;x107;f0.0.0>5.2.2,99;", 6, 54, 45, 108, 1, 1, 0, 24);
        at.run("k4;", then(flows(16, 0, 1, 9), "count(5)=16", "count(6)=2"));
        List<String> all = new ArrayList<>();
        for (int l = 0; l < 108; l++) all.add(Boundaries.call("cut", l, 1) + "=1");
        at.run("k6;", then(all, "count(4)=108", "undo()=1", "count(4)=107", "count(6)=1", "undo()=0", "count(4)=106", "count(6)=0"));
    }
}
