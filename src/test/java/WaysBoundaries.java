import java.util.ArrayList;
import java.util.List;

/** Boundary cases of promises 16 to 22, each by its sentence: where letters go, WAYS, PAIRS, SPREAD. */
final class WaysBoundaries {
    private static final String NEW = Boundaries.NEW;
    private static final String NO_LINK = "k2;x0;x1;x2;x3;";
    private final Boundaries at;

    private WaysBoundaries(Boundaries at) { this.at = at; }

    static void go(Boundaries at) {
        WaysBoundaries ways = new WaysBoundaries(at);
        ways.onward();
        ways.onwardByShift();
        ways.upFromEdge();
        ways.upFromMiddle();
        ways.lost();
        ways.byItsOwnMarks();
        ways.way();
        ways.arrives();
        ways.ways();
        ways.pairs();
        ways.parts();
        ways.spread();
    }

    private void onward() {
        at.holds(16, "at b's EDGE: to b, it ARRIVES.");
        at.run("k4;", "onward(0, 0, 0)=NONE", "onward(0, 1, 3)=NONE", "onward(7, 15, 0)=NONE", "onward(0, 2, 0)=0", "fail(7)=2",
                "onward(7, 15, 0)=NONE", "onward(7, 14, 3)=NONE", "onward(7, 13, 0)=NO");
        at.holds(16, "the LINK; NONE: it ARRIVES; NO: it is LOST there. BAD.");
        at.run(NEW, "onward(-1, 0, 0)=BAD", "onward(20, 0, 0)=BAD", "onward(0, -1, 0)=BAD", "onward(0, 16, 0)=BAD", "onward(0, 0, -1)=BAD",
                "onward(0, 0, 4)=BAD", "onward(0, 15, 4)=BAD", "onward(11, 4, 4)=BAD", "onward(11, 4, 0)=NO", "onward(20, 16, 4)=BAD",
                "onward(LOW, 0, 0)=BAD", "onward(0, HIGH, 0)=BAD", "onward(0, 0, HIGH)=BAD", "onward(0, 0, LOW)=BAD");
        at.holds(16, "at a CORE m of j: down to MIDDLE j of POD p; at MIDDLE j of POD p: down to EDGE i;");
        at.run("k4;", "onward(16, 0, 0)=16", "onward(16, 7, 3)=20", "onward(16, 8, 0)=24", "onward(16, 15, 0)=28", "onward(17, 0, 0)=17",
                "onward(18, 0, 0)=18", "onward(19, 0, 0)=19", "onward(19, 15, 3)=31", "onward(8, 0, 0)=0", "onward(8, 3, 3)=2",
                "onward(9, 0, 0)=1", "onward(14, 12, 0)=12", "onward(14, 15, 1)=14", "onward(15, 12, 0)=13", "onward(15, 15, 0)=15");
        at.run("k6;", "onward(44, 53, 8)=107", "onward(36, 0, 0)=54", "onward(35, 53, 8)=53", "onward(18, 0, 0)=0");
    }

    private void onwardByShift() {
        at.holds(16, "SHIFTS are s, 0 to H H - 1.");
        at.run("k2;", "onward(0, 1, 0)=0", "onward(0, 1, 1)=BAD", "onward(0, 1, -1)=BAD");
        at.run("k4;", "onward(0, 15, 3)=0", "onward(0, 15, 4)=BAD", "onward(0, 15, -1)=BAD");
        at.run("k6;", "onward(0, 53, 8)=1", "onward(0, 53, 9)=BAD", "onward(0, 53, -1)=BAD");
        at.holds(16, "j0 being h, e and (s by H, cut) together modulo H");
        for (int s = 0; s < 9; s++) {
            List<String> calls = new ArrayList<>();
            for (int e = 0; e < 3; e++)
                for (int h = 0; h < 3; h++) calls.add(Boundaries.call("onward", e, 51 + h, s) + "=" + (e * 3 + (h + e + s / 3) % 3));
            at.run("k6;", calls);
        }
        at.run("k6;", "onward(2, 53, 2)=7", "onward(2, 53, 3)=8", "onward(2, 53, 5)=8", "onward(2, 53, 6)=6", "onward(2, 53, 8)=6");
        at.holds(16, "m0 being h, j and (s modulo H) together modulo H");
        for (int s = 0; s < 9; s++) {
            List<String> calls = new ArrayList<>();
            for (int j = 0; j < 3; j++)
                for (int h = 0; h < 3; h++) calls.add(Boundaries.call("onward", 18 + j, 51 + h, s) + "=" + (54 + j * 3 + (h + j + s % 3) % 3));
            at.run("k6;", calls);
        }
        at.run("k6;", "onward(20, 53, 0)=61", "onward(20, 53, 2)=60", "onward(20, 53, 3)=61", "onward(20, 53, 8)=60");
    }

    private void onwardIs(String texts, int n, int b, String want) {
        at.run("k6;" + texts, "onward(" + n + ", " + b + ", 0)=" + want);
    }

    private void upFromEdge() {
        at.holds(16, "up to the first MIDDLE j of j0, j0 + 1, .. (H of them, modulo H,");
        onwardIs("", 0, 53, "2");
        onwardIs("x2;", 0, 53, "0");
        onwardIs("x2;x0;", 0, 53, "1");
        onwardIs("x2;x0;x1;", 0, 53, "NO");
        onwardIs("", 1, 53, "3");
        onwardIs("x3;", 1, 53, "4");
        onwardIs("x3;x4;", 1, 53, "5");
        onwardIs("x7;", 2, 53, "8");
        onwardIs("x7;x8;", 2, 53, "6");
        at.holds(16, "that LEADS: the LINK to it is whole, and that from MIDDLE j of POD p to EDGE i, and,");
        onwardIs("x53;", 0, 53, "0");
        onwardIs("x53;x51;", 0, 53, "1");
        onwardIs("x53;x51;x52;", 0, 53, "NO");
        onwardIs("x53;x0;", 0, 53, "1");
        onwardIs("x53;x0;x52;", 0, 53, "NO");
        at.holds(16, "if q is not p, for some m the LINKS from MIDDLE j of POD q and of POD p to CORE m of j.");
        onwardIs("x60;x61;", 0, 53, "2");
        onwardIs("x61;x62;", 0, 53, "2");
        onwardIs("x60;x61;x62;", 0, 53, "0");
        onwardIs("x105;x106;", 0, 53, "2");
        onwardIs("x105;x106;x107;", 0, 53, "0");
        onwardIs("x60;x61;x107;", 0, 53, "0");
        onwardIs("x105;x61;x107;", 0, 53, "0");
        onwardIs("x61;x107;", 0, 53, "2");
        onwardIs("", 0, 5, "2");
        onwardIs("x60;x61;x62;", 0, 5, "2");
        onwardIs("x5;", 0, 5, "0");
        onwardIs("x5;x3;x1;", 0, 5, "NO");
    }

    private void upFromMiddle() {
        at.holds(16, "up to the first CORE m of j of m0, m0 + 1, .. (likewise,");
        onwardIs("", 18, 53, "56");
        onwardIs("x56;", 18, 53, "54");
        onwardIs("x56;x54;", 18, 53, "55");
        onwardIs("x56;x54;x55;", 18, 53, "NO");
        onwardIs("x57;", 19, 53, "58");
        onwardIs("x57;x58;", 19, 53, "59");
        onwardIs("x61;", 20, 53, "62");
        onwardIs("x61;x62;", 20, 53, "60");
        at.holds(16, "the LINKS to it from MIDDLE j of this POD and of POD p, and that from MIDDLE j of POD p to EDGE i are whole.");
        onwardIs("x106;", 20, 53, "62");
        onwardIs("x61;x107;", 20, 53, "60");
        onwardIs("x61;x107;x60;", 20, 53, "NO");
        onwardIs("x61;x107;x105;", 20, 53, "NO");
        onwardIs("x53;", 20, 53, "NO");
        onwardIs("x53;", 20, 52, "NO");
        onwardIs("x53;", 20, 49, "60");
        onwardIs("x53;", 19, 53, "57");
    }

    // K = 2 is one row of SWITCHES: 0 - 2 - 4 - 3 - 1, by the LINKS 0, 2, 3, 1.
    private void lost() {
        at.holds(16, "if that LINK is CUT, it is LOST there.");
        at.run("k2;x3;", "onward(4, 1, 0)=NO", "onward(4, 0, 0)=2");
        at.run("k2;x2;", "onward(4, 0, 0)=NO", "onward(4, 1, 0)=3");
        at.run("k2;x1;", "onward(3, 1, 0)=NO", "onward(3, 0, 0)=3", "onward(4, 1, 0)=3");
        at.run("k4;x14;", "onward(14, 15, 0)=NO", "onward(14, 14, 3)=NO", "onward(14, 13, 0)=12", "onward(15, 15, 0)=15");
        at.run("k4;x31;", "onward(19, 15, 0)=NO", "onward(19, 11, 0)=27", "onward(18, 15, 0)=30");
        at.holds(16, "Where it is to go up and nothing LEADS, it is LOST.");
        at.run("k2;x0;", "onward(0, 1, 0)=NO", "onward(1, 0, 0)=NO", "onward(3, 0, 0)=NO", "onward(2, 1, 0)=2");
        at.run("k2;x2;", "onward(0, 1, 0)=NO", "onward(2, 1, 0)=NO", "onward(3, 0, 0)=NO", "onward(1, 0, 0)=NO");
        at.run(NO_LINK, "onward(0, 1, 0)=NO", "onward(1, 0, 0)=NO", "onward(2, 1, 0)=NO", "onward(3, 0, 0)=NO", "onward(4, 0, 0)=NO",
                "onward(0, 0, 0)=NONE");
    }

    private void byItsOwnMarks() {
        at.holds(16, "goes by SWITCHES, each by its own MARKS:");
        at.run("k2;", "cut(1, 1)=1", "onward(0, 1, 0)=0", "onward(2, 1, 0)=2", "onward(4, 1, 0)=3", "onward(3, 1, 0)=NO", "tick(1)=1",
                "onward(4, 1, 0)=3", "onward(2, 1, 0)=2", "tick(1)=1", "onward(2, 1, 0)=NO", "onward(0, 1, 0)=0", "tick(1)=1",
                "onward(0, 1, 0)=NO");
        at.run("k2;x1;", "cut(1, 0)=2", "onward(0, 1, 0)=NO", "onward(2, 1, 0)=NO", "onward(3, 1, 0)=1", "tick(2)=2", "onward(2, 1, 0)=2",
                "onward(0, 1, 0)=NO", "tick(1)=1", "onward(0, 1, 0)=0");
    }

    private void wayIs(String text, String change, int a, int b, int s, int... switches) {
        String call = "way(" + a + ", " + b + ", " + s + ", ";
        List<String> calls = new ArrayList<>();
        if (!change.isEmpty()) calls.add(change);
        calls.add(call + "-1)=" + switches.length);
        for (int i = 0; i < switches.length; i++) calls.add(call + i + ")=" + switches[i]);
        calls.add(call + switches.length + ")=NONE");
        calls.add(call + "HIGH)=NONE");
        calls.add(call + "-2)=BAD");
        calls.add(call + "LOW)=BAD");
        at.run(text, calls);
    }

    private void way() {
        at.holds(17, "how many (i = -1), the i-th.");
        wayIs("k2;", "", 0, 1, 0, 0, 2, 4, 3, 1);
        wayIs("k4;", "", 0, 1, 3, 0);
        wayIs("k4;", "", 15, 14, 0, 7);
        wayIs("k4;", "", 0, 2, 0, 0, 8, 1);
        wayIs("k4;", "", 0, 15, 3, 0, 8, 16, 14, 7);
        wayIs("k6;", "", 53, 0, 8, 17, 34, 39, 19, 0);
        at.holds(17, "BAD (a and b one, too; i below -1); NONE: not so many.");
        at.run("k4;", "way(0, 0, 0, -1)=BAD", "way(15, 15, 3, 0)=BAD", "way(0, 0, 0, 9)=BAD", "way(-1, 0, 0, 0)=BAD", "way(16, 0, 0, 0)=BAD",
                "way(0, -1, 0, 0)=BAD", "way(0, 16, 0, 0)=BAD", "way(0, 1, -1, 0)=BAD", "way(0, 1, 4, 0)=BAD", "way(0, 1, 4, 9)=BAD",
                "way(0, 1, 0, -2)=BAD", "way(0, 1, 0, LOW)=BAD", "way(0, 1, 0, 1)=NONE", "way(0, 1, 0, HIGH)=NONE", "way(0, 15, 0, 4)=7",
                "way(0, 15, 0, 5)=NONE", "way(LOW, 1, 0, 0)=BAD", "way(0, HIGH, 0, 0)=BAD", "way(0, 1, HIGH, 0)=BAD");
        // A letter that is LOST goes by the SWITCHES up to the one where it is LOST, and by that one.
        at.holds(17, "SWITCHES by which a letter from a to b by a SHIFT goes");
        wayIs("k2;", "cut(1, 1)=1", 0, 1, 0, 0, 2, 4, 3);
        wayIs("k2;", "cut(3, 1)=1", 0, 1, 0, 0, 2, 4);
        wayIs("k2;", "cut(2, 1)=1", 0, 1, 0, 0, 2);
        wayIs("k2;", "cut(0, 1)=1", 0, 1, 0, 0);
        wayIs(NO_LINK, "", 1, 0, 0, 1);
        wayIs("k4;x0;x1;", "", 0, 1, 0, 0);
    }

    private void arrives() {
        at.holds(18, "1: it ARRIVES, 0: it is LOST. BAD (a and b one, too).");
        at.run("k4;", "arrives(0, 1, 0)=1", "arrives(0, 15, 3)=1", "arrives(0, 0, 0)=BAD", "arrives(15, 15, 3)=BAD", "arrives(-1, 0, 0)=BAD",
                "arrives(16, 0, 0)=BAD", "arrives(0, -1, 0)=BAD", "arrives(0, 16, 0)=BAD", "arrives(0, 1, -1)=BAD", "arrives(0, 1, 4)=BAD",
                "arrives(0, 0, 4)=BAD", "arrives(LOW, 1, 0)=BAD", "arrives(0, HIGH, 0)=BAD", "arrives(0, 1, LOW)=BAD");
        at.run("k2;", "arrives(0, 1, 0)=1", "arrives(0, 1, 1)=BAD", "arrives(0, 2, 0)=BAD", "arrives(1, 1, 0)=BAD");
        at.run("k6;", "arrives(53, 0, 8)=1", "arrives(53, 0, 9)=BAD", "arrives(54, 0, 0)=BAD");
        for (int l = 0; l < 4; l++)
            at.run("k2;", "cut(" + l + ", 1)=1", "arrives(0, 1, 0)=0", "arrives(1, 0, 0)=0", "tick(9)=3", "arrives(0, 1, 0)=0",
                    "cut(" + l + ", 0)=2", "tick(9)=3", "arrives(0, 1, 0)=1");
        at.run("k4;", "fail(7)=2", "arrives(14, 15, 0)=1", "arrives(0, 15, 0)=0", "arrives(15, 0, 0)=0", "tick(9)=36", "arrives(15, 14, 3)=1",
                "arrives(0, 15, 0)=0");
    }

    private void ways() {
        at.holds(19, "the EDGE alone, if it is one;");
        at.run("k4;", "ways(0, 1)=1", "ways(15, 14)=1", "fail(0)=2", "ways(0, 1)=1", "ways(1, 0)=1");
        at.run("k6;x0;x1;x2;", "ways(0, 2)=1", "ways(0, 3)=0");
        at.holds(19, "both EDGES and a MIDDLE, if it is one POD;");
        at.run("k4;", "ways(0, 2)=2", "ways(3, 1)=2", "cut(0, 1)=1", "ways(0, 2)=1", "cut(2, 1)=1", "ways(0, 2)=1", "cut(3, 1)=1",
                "ways(0, 2)=0", "ways(2, 0)=0", "fail(16)=4", "fail(17)=4", "ways(4, 6)=2");
        at.run("k6;", "ways(0, 8)=3", "fail(18)=6", "ways(0, 8)=2", "fail(19)=6", "fail(20)=6", "ways(0, 8)=0");
        at.holds(19, "else both EDGES, MIDDLE j of both PODS, CORE m of j.");
        at.run("k2;", "ways(0, 1)=1", "ways(1, 0)=1", "cut(3, 1)=1", "ways(0, 1)=0", "ways(1, 0)=0");
        at.run("k4;", "ways(0, 15)=4", "cut(16, 1)=1", "ways(0, 15)=3", "cut(28, 1)=1", "ways(0, 15)=3", "cut(29, 1)=1", "ways(0, 15)=2",
                "cut(15, 1)=1", "ways(0, 15)=0", "ways(15, 0)=0", "ways(0, 13)=2");
        at.run("k6;", "ways(0, 53)=9", "cut(54, 1)=1", "ways(0, 53)=8", "cut(99, 1)=1", "ways(0, 53)=8", "cut(100, 1)=1", "ways(0, 53)=7",
                "cut(0, 1)=1", "ways(0, 53)=6", "ways(3, 53)=7");
        at.holds(19, "BAD (one, told twice, too).");
        at.run("k4;", "ways(0, 0)=BAD", "ways(15, 15)=BAD", "ways(-1, 0)=BAD", "ways(0, -1)=BAD", "ways(16, 0)=BAD", "ways(0, 16)=BAD",
                "ways(16, 16)=BAD", "ways(-1, -1)=BAD", "ways(LOW, 0)=BAD", "ways(0, HIGH)=BAD");
        at.run("k2;", "ways(0, 2)=BAD", "ways(2, 0)=BAD");
        at.run("k6;", "ways(0, 54)=BAD", "ways(54, 0)=BAD", "ways(52, 53)=1");
    }

    private void pairsAre(String text, int... wants) {
        at.run(text, "pairs(0)=" + wants[0], "pairs(1)=" + wants[1], "pairs(2)=" + wants[2], "pairs(3)=" + wants[3]);
    }

    private void pairs() {
        at.holds(20, "PAIRS are two unlike HOSTS, in order.");
        pairsAre("k2;", 2, 2, 1, 1);
        pairsAre("k4;", 240, 240, 1, 4);
        pairsAre("k6;", 2862, 2862, 1, 9);
        at.holds(20, "how many have a WAY (what = 0), whose letter by SHIFT 0 ARRIVES (1), the fewest WAYS of a PAIR (2), the most (3). BAD.");
        pairsAre(NO_LINK, 0, 0, 0, 0);
        pairsAre("k2;x3;", 0, 0, 0, 0);
        StringBuilder apart = new StringBuilder("k4;");
        for (int l = 0; l < 16; l++) apart.append("x" + l + ";");
        pairsAre(apart.toString(), 16, 16, 0, 1);
        StringBuilder pods = new StringBuilder("k4;");
        for (int l = 16; l < 32; l++) pods.append("x" + l + ";");
        pairsAre(pods.toString(), 48, 48, 0, 2);
        at.run("k4;", "cut(14, 1)=1", "pairs(0)=240", "pairs(1)=226", "tick(9)=18", "pairs(1)=240");
        at.run("k4;x14;x15;", "pairs(0)=184", "cut(14, 0)=2", "pairs(0)=240", "pairs(1)=212", "tick(9)=18", "pairs(1)=240");
        at.run("k2;", "pairs(-1)=BAD", "pairs(4)=BAD", "pairs(LOW)=BAD", "pairs(HIGH)=BAD");
        // The fewest and the most, each asked for alone, and anew when there are fewer.
        at.run("k2;", "pairs(3)=1", "cut(0, 1)=1", "pairs(3)=0", "undo()=0", "pairs(3)=1");
        at.run("k2;", "pairs(2)=1", "cut(0, 1)=1", "pairs(2)=0", "undo()=0", "pairs(2)=1");
        // Out of EDGE 0 of the other PODS letters with h = 0 come to CORE 16 and are LOST there; by SHIFT 1 it would be those
        // with h = 1 out of their EDGE 1, of which POD 0 has none that sends any.
        at.holds(20, "whose letter by SHIFT 0 ARRIVES (1)");
        at.run("k4;x2;x3;", "pairs(0)=184", "pairs(1)=184", "cut(28, 1)=1", "pairs(0)=184", "pairs(1)=172");
    }

    private void parts() {
        at.holds(21, "How many PAIRS that have a WAY would have none, if a LINK were CUT (0, if it is). BAD.");
        at.run("k2;", "parts(0)=2", "parts(1)=2", "parts(2)=2", "parts(3)=2", "parts(4)=BAD", "parts(-1)=BAD", "count(4)=0");
        at.run("k2;x0;", "parts(0)=0", "parts(1)=0", "parts(2)=0", "parts(3)=0");
        at.run("k4;", "parts(0)=0", "parts(15)=0", "parts(16)=0", "parts(31)=0", "parts(32)=BAD", "parts(-1)=BAD", "parts(LOW)=BAD",
                "parts(HIGH)=BAD");
        at.run("k4;x0;", "parts(0)=0", "parts(1)=56", "link(1, 3)=0", "late()=0", "cut(1, 1)=1", "parts(1)=0", "parts(0)=0");
        at.run("k4;x15;", "parts(15)=0", "parts(14)=56", "parts(31)=0");
        at.run("k6;", "parts(0)=0", "parts(107)=0", "parts(108)=BAD");
        at.run("k6;x51;x52;", "parts(53)=306", "parts(51)=0", "parts(107)=0");
    }

    private void spreadIs(String text, String change, String... wants) {
        List<String> calls = new ArrayList<>();
        if (!change.isEmpty()) calls.add(change);
        for (int c = 0; c < 4; c++) calls.add("spread(" + c + ")=" + wants[c]);
        at.run(text, calls);
    }

    private void spread() {
        at.holds(22, "the most times (what = 0), the least (1) that a whole LINK is gone over up, the most, the least down (2, 3);");
        spreadIs("k2;", "", "1", "1", "1", "1");
        spreadIs("k4;", "", "14", "12", "14", "12");
        // All letters out of EDGE 0 and into it go over LINK 0, 28 each way. MIDDLE 9 has only EDGE 1's letters with h = 0 to
        // send up, all by CORE 1 of it, so LINK 18 is not gone over up; down it has half of the 12 that it would have.
        spreadIs("k4;x1;", "", "28", "0", "28", "6");
        at.holds(22, "SPREAD is told of all PAIRS whose letter by SHIFT 0 ARRIVES");
        spreadIs("k2;", "cut(3, 1)=1", "0", "0", "0", "0");
        spreadIs("k4;", "cut(14, 1)=1", "28", "0", "16", "6");
        at.holds(22, "NONE: there is no whole LINK. BAD.");
        spreadIs(NO_LINK, "", "NONE", "NONE", "NONE", "NONE");
        spreadIs("k2;x1;x2;x3;", "", "0", "0", "0", "0");
        spreadIs("k2;x0;x1;x2;x3;", "cut(3, 0)=2", "0", "0", "0", "0");
        spreadIs("k2;x0;x1;x2;", "cut(3, 1)=1", "NONE", "NONE", "NONE", "NONE");
        at.run("k2;", "spread(-1)=BAD", "spread(4)=BAD", "spread(LOW)=BAD", "spread(HIGH)=BAD");
        // Both BAD and NONE: the terms tell BAD ahead of NONE.
        at.holds(22, "Of several the first in the order told; nothing changes then.");
        at.run(NO_LINK, "spread(4)=BAD", "spread(-1)=BAD");
    }
}
