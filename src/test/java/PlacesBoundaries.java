import java.util.ArrayList;
import java.util.List;

/** Boundary cases of promises 6 to 8, each by its sentence: HOSTS, SWITCHES and LINKS at the ends of their rows. */
final class PlacesBoundaries {
    private static final String NEW = Boundaries.NEW;
    private final Boundaries at;

    private PlacesBoundaries(Boundaries at) { this.at = at; }

    static void go(Boundaries at) {
        PlacesBoundaries places = new PlacesBoundaries(at);
        places.host();
        places.node();
        places.wholeLinks();
        places.link();
        places.linkThatIsCut();
    }

    private void host() {
        at.holds(6, "HOST h of EDGE i of POD p is (p H + i) H + h; its ADDRESS is the digits p, i, h.");
        for (int k = 2; k <= 6; k += 2) {
            int half = k / 2;
            List<String> calls = new ArrayList<>();
            int host = 0;
            for (int p = 0; p < k; p++)
                for (int i = 0; i < half; i++)
                    for (int h = 0; h < half; h++) calls.add(Boundaries.call("host", p, i, h) + "=" + host++);
            at.run("k" + k + ";", calls);
        }
        at.holds(6, "The HOST of an ADDRESS. BAD.");
        at.run("k2;", "host(0, 0, 0)=0", "host(1, 0, 0)=1", "host(2, 0, 0)=BAD", "host(0, 1, 0)=BAD", "host(0, 0, 1)=BAD",
                "host(-1, 0, 0)=BAD", "host(0, -1, 0)=BAD", "host(0, 0, -1)=BAD");
        at.run("k4;", "host(3, 1, 1)=15", "host(4, 0, 0)=BAD", "host(3, 2, 0)=BAD", "host(3, 1, 2)=BAD", "host(-1, 1, 1)=BAD",
                "host(3, -1, 1)=BAD", "host(3, 1, -1)=BAD", "host(1, -1, 2)=BAD", "host(4, 1, 1)=BAD", "host(LOW, LOW, LOW)=BAD",
                "host(HIGH, HIGH, HIGH)=BAD", "host(1073741824, 0, 0)=BAD", "host(0, 0, HIGH)=BAD", "host(0, LOW, 0)=BAD");
        at.run("k6;", "host(5, 2, 2)=53", "host(6, 0, 0)=BAD", "host(5, 3, 0)=BAD", "host(5, 2, 3)=BAD", "host(-1, 2, 2)=BAD",
                "host(5, -1, 2)=BAD", "host(5, 2, -1)=BAD");
    }

    private void nodeIs(String text, int n, String tier, String pod, String place, String member, String whole) {
        at.run(text, "node(" + n + ", 0)=" + tier, "node(" + n + ", 1)=" + pod, "node(" + n + ", 2)=" + place,
                "node(" + n + ", 3)=" + member, "node(" + n + ", 4)=" + whole, "node(" + n + ", -1)=BAD", "node(" + n + ", 5)=BAD");
    }

    private void node() {
        at.holds(7, "EDGE i of POD p is p H + i; MIDDLE j of POD p is K H more than p H + j; CORE m of j (j, m 0 to H - 1) "
                + "is 2 K H more than j H + m.");
        nodeIs("k2;", 0, "0", "0", "0", "NONE", "1");
        nodeIs("k2;", 1, "0", "1", "0", "NONE", "1");
        nodeIs("k2;", 2, "1", "0", "0", "NONE", "2");
        nodeIs("k2;", 3, "1", "1", "0", "NONE", "2");
        nodeIs("k2;", 4, "2", "NONE", "0", "0", "2");
        nodeIs("k4;", 0, "0", "0", "0", "NONE", "2");
        nodeIs("k4;", 7, "0", "3", "1", "NONE", "2");
        nodeIs("k4;", 8, "1", "0", "0", "NONE", "4");
        nodeIs("k4;", 15, "1", "3", "1", "NONE", "4");
        nodeIs("k4;", 16, "2", "NONE", "0", "0", "4");
        nodeIs("k4;", 19, "2", "NONE", "1", "1", "4");
        nodeIs("k6;", 0, "0", "0", "0", "NONE", "3");
        nodeIs("k6;", 17, "0", "5", "2", "NONE", "3");
        nodeIs("k6;", 18, "1", "0", "0", "NONE", "6");
        nodeIs("k6;", 35, "1", "5", "2", "NONE", "6");
        nodeIs("k6;", 36, "2", "NONE", "0", "0", "6");
        nodeIs("k6;", 38, "2", "NONE", "0", "2", "6");
        nodeIs("k6;", 39, "2", "NONE", "1", "0", "6");
        nodeIs("k6;", 44, "2", "NONE", "2", "2", "6");
        at.holds(7, "its POD (1; NONE: a CORE), i, j, or of a CORE j (2), of a CORE m (3; NONE of others)");
        at.run("k4;", "node(15, 1)=3", "node(16, 1)=NONE", "node(15, 3)=NONE", "node(16, 3)=0", "node(7, 3)=NONE", "node(17, 2)=0",
                "node(17, 3)=1", "node(18, 2)=1", "node(18, 3)=0");
        at.holds(7, "BAD: a number is none that is told (SWITCHES, LINKS, HOSTS, FLOWS, SHIFTS: such as there are).");
        at.run("k2;", "node(4, 0)=2", "node(5, 0)=BAD", "node(-1, 0)=BAD", "node(5, 4)=BAD");
        at.run("k4;", "node(20, 0)=BAD", "node(20, 1)=BAD", "node(20, 2)=BAD", "node(20, 3)=BAD", "node(20, 4)=BAD", "node(-1, 3)=BAD",
                "node(19, 5)=BAD", "node(19, -1)=BAD", "node(16, LOW)=BAD", "node(0, HIGH)=BAD", "node(LOW, 0)=BAD", "node(HIGH, 0)=BAD");
        at.run("k6;", "node(44, 4)=6", "node(45, 0)=BAD", "node(45, 4)=BAD", "node(-1, 4)=BAD", "node(-1, 5)=BAD");
        at.run("k6;", "tell k2;", "lay()=2", "node(4, 4)=2", "node(5, 0)=BAD", "node(44, 0)=BAD");
    }

    private void wholeLinks() {
        at.holds(7, "how many whole LINKS it has (4)");
        at.run(NEW, "node(2, 4)=1", "node(11, 4)=3", "node(3, 4)=2", "cut(4, 1)=1", "node(2, 4)=0", "node(10, 4)=3", "heal(2)=2",
                "node(2, 4)=2", "node(11, 4)=4", "fail(19)=4", "node(19, 4)=0", "node(15, 4)=3", "node(9, 4)=3", "undo()=1",
                "node(19, 4)=4");
        at.run("k2;x0;x1;x2;x3;", "node(0, 4)=0", "node(1, 4)=0", "node(2, 4)=0", "node(3, 4)=0", "node(4, 4)=0", "cut(3, 0)=2",
                "node(3, 4)=1", "node(4, 4)=1", "node(2, 4)=0");
    }

    private void link() {
        at.holds(8, "from each EDGE i of POD p to each MIDDLE j of it: (p H + i) H + j; from each MIDDLE j of POD p to each CORE m "
                + "of j: K H H more than (p H + j) H + m.");
        for (int k = 2; k <= 6; k += 2) {
            int half = k / 2;
            List<String> calls = new ArrayList<>();
            int link = 0;
            for (int p = 0; p < k; p++)
                for (int i = 0; i < half; i++) for (int j = 0; j < half; j++) addEnds(calls, link++, p * half + i, k * half + p * half + j);
            for (int p = 0; p < k; p++)
                for (int j = 0; j < half; j++)
                    for (int m = 0; m < half; m++) addEnds(calls, link++, k * half + p * half + j, 2 * k * half + j * half + m);
            addBad(calls, link);
            at.run("k" + k + ";", calls);
        }
        at.holds(8, "Of a LINK: its lower SWITCH (what = 0), its upper one (1), 1: CUT, 0 (2), AGE (3). BAD.");
        at.run("k4;", "link(0, -1)=BAD", "link(0, 4)=BAD", "link(31, 3)=0", "link(31, 4)=BAD", "link(32, 3)=BAD", "link(-1, 3)=BAD",
                "link(32, 4)=BAD", "link(LOW, LOW)=BAD", "link(HIGH, 0)=BAD", "link(0, HIGH)=BAD", "link(0, LOW)=BAD");
    }

    private static void addEnds(List<String> calls, int l, int lower, int upper) {
        calls.add(Boundaries.call("link", l, 0) + "=" + lower);
        calls.add(Boundaries.call("link", l, 1) + "=" + upper);
    }

    private static void addBad(List<String> calls, int links) {
        for (int what = 0; what < 4; what++) {
            calls.add(Boundaries.call("link", links, what) + "=BAD");
            calls.add(Boundaries.call("link", -1, what) + "=BAD");
        }
    }

    private void linkThatIsCut() {
        at.holds(8, "1: CUT, 0 (2), AGE (3)");
        at.run("k4;x31;", "link(31, 2)=1", "link(31, 3)=1", "link(30, 2)=0", "link(30, 3)=0", "cut(31, 0)=2", "link(31, 2)=0",
                "link(31, 3)=2", "cut(31, 1)=3", "link(31, 2)=1", "link(31, 3)=3", "undo()=1", "link(31, 2)=0", "link(31, 3)=2");
    }
}
